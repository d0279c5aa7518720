/** The section "Terms" but for bounds and cuts: each sentence that names a boundary case, by its words. */
public final class TermsEdgeTest {
    private TermsEdgeTest() {
    }

    public static void main(String[] args) {
        tenFacts();
        twelveActions();
        costs();
        linksInSeveralKinds();
        applicable();
        dropsThenAdds();
        firstAtFirst();
        met();
        comes();
        emptyPlan();
        leastCost();
        lesserAction();
        fullDraft();
        addingClears();
        Due.end();
    }

    private static void tenFacts() {
        Due.sentence("FACTS are 0, 1, .. (at most 10)");
        CutPlanner p = Due.withFacts("f--------g");
        Due.newAction(p, 1, "0", "9", "");
        Due.newAction(p, 1, "9", "8", "9");
        Due.same("first", Due.held(p, 10), "1000000000");
        Due.is("the last fact is a goal", p.plan(), 1);
        Due.is("the last fact is added", p.apply(0), true);
        Due.same("added", Due.held(p, 10), "1000000001");
        Due.is("the last fact is needed and dropped", p.apply(1), false);
        Due.same("dropped", Due.held(p, 10), "1000000010");
        Due.is("level of the last fact", p.level(9, false), 1);
        Due.is("landmark: the last fact", p.landmark(9), true);
        Due.is("together: the last fact", p.together(9, 8), true);
    }

    private static void twelveActions() {
        Due.sentence("ACTIONS 0, 1, .. (at most 12)");
        CutPlanner p = Due.withFacts("g");
        for (int k = 0; k < 12; k++) {
            Due.is("number", p.action(1), k);
        }
        p.link(Due.ADDS, 11, 0);
        Due.is("the last action alone leads to the goal", p.plan(), 1);
        Due.is("step(0)", p.step(0), 11);
        Due.same("cuts", Due.foundCuts(p), "1: b");
        Due.is("cut(0)", p.cut(0), 2048);
        Due.is("drafted", p.draft(11), 1);
        Due.is("check", p.check(), CutPlanner.NONE);
        Due.is("applied", p.apply(11), true);
    }

    private static void costs() {
        Due.sentence("each with a COST 1 .. 9");
        for (int cost = 1; cost <= 9; cost++) {
            CutPlanner p = Due.withFacts("g");
            Due.is("number", Due.newAction(p, cost, "", "0", ""), 0);
            Due.is("plan", p.plan(), cost);
            Due.is("level", p.level(0, false), cost);
            Due.is("weight", p.level(0, true), cost);
            Due.same("cuts", Due.foundCuts(p), cost + ": 0");
            p.draft(0);
            Due.is("cost", p.cost(), cost);
        }
    }

    /** Each of the eight ways in which one action can have to do with one fact, true or not. */
    private static void linksInSeveralKinds() {
        Due.sentence("An action has facts that it NEEDS, ADDS and DROPS (some may be in several of these, or none "
            + "in any).");
        for (int kinds = 0; kinds < 8; kinds++) {
            for (int first = 0; first < 2; first++) {
                oneWay(kinds, first == 1);
            }
        }
    }

    private static void oneWay(int kinds, boolean first) {
        CutPlanner p = new CutPlanner();
        p.fact(first, false);
        p.action(1);
        for (int kind = 2; kind >= 0; kind--) {
            if ((kinds >> kind & 1) != 0) {
                p.link(kind, 0, 0);
            }
        }
        boolean needs = (kinds & 1) != 0;
        boolean adds = (kinds & 2) != 0;
        boolean drops = (kinds & 4) != 0;
        String what = "kinds " + kinds + (first ? ", true" : ", false");
        Due.is(what + ": applicable", p.applicable(0), first || !needs);
        if (first || !needs) {
            p.apply(0);
            Due.is(what + ": after", p.holds(0), adds || first && !drops);
        }
    }

    private static void applicable() {
        Due.sentence("It is APPLICABLE in a state when all that it needs are true.");
        CutPlanner none = new CutPlanner();
        none.action(1);
        Due.is("needs nothing, no facts", none.applicable(0), true);
        Due.is("needs nothing, no facts: applied", none.apply(0), true);
        for (int missing = -1; missing < 10; missing++) {
            CutPlanner p = new CutPlanner();
            for (int fact = 0; fact < 10; fact++) {
                p.fact(fact != missing, false);
            }
            Due.newAction(p, 1, "0123456789", "", "");
            Due.is("needs all, not true is " + missing, p.applicable(0), missing == -1);
        }
    }

    private static void dropsThenAdds() {
        Due.sentence("Then, APPLIED, it makes all that it drops false, and after that all that it adds true.");
        CutPlanner p = Due.withFacts("fffff-----");
        Due.newAction(p, 1, "", "13579", "01256");
        p.apply(0);
        Due.same("dropped, added, both or neither", Due.held(p, 10), "0101110101");
        p.apply(0);
        Due.same("applied again", Due.held(p, 10), "0101110101");
    }

    private static void firstAtFirst() {
        Due.sentence("There is a FIRST state, and a STATE AT HAND, the first one at first");
        Due.same("some are true", Due.held(Due.withFacts("f-gb"), 4), "1001");
        Due.same("none is true", Due.held(Due.withFacts("--gg"), 4), "0000");
    }

    private static void met() {
        Due.sentence("some facts are the GOAL, and a state in which all of these are true is MET.");
        Due.is("no goal", Due.withFacts("--").check(), CutPlanner.NONE);
        Due.is("all of it are true", Due.withFacts("bb-").check(), CutPlanner.NONE);
        Due.is("more is true", Due.withFacts("bbf").check(), CutPlanner.NONE);
        Due.is("one of two is true", Due.withFacts("bg").check(), 0);
        Due.is("all ten are the goal", Due.withFacts("bbbbbbbbbb").check(), CutPlanner.NONE);
        Due.is("nine of ten are true", Due.withFacts("bbbbbbbbbg").check(), 0);
    }

    private static void comes() {
        Due.sentence("A state COMES from another one when there are actions, none or more");
        CutPlanner p = Due.withFacts("f--");
        Due.is("no actions", p.states(), 1);
        Due.newAction(p, 1, "1", "2", "");
        Due.is("none is applicable", p.states(), 1);
        Due.is("together in the state itself", p.together(0, 0), true);
        Due.newAction(p, 1, "0", "0", "");
        Due.is("an action that changes nothing", p.states(), 1);
        Due.newAction(p, 9, "0", "1", "0");
        Due.is("one after the other", p.states(), 3);
        Due.is("true after two", p.together(2, 2), true);
    }

    private static void emptyPlan() {
        Due.sentence("A PLAN is a row of actions, none or more");
        CutPlanner p = Due.withFacts("b-");
        Due.newAction(p, 1, "", "01", "");
        Due.is("met already: plan", p.plan(), 0);
        Due.is("met already: length", p.length(), 0);
        Due.is("met already: step(0)", p.step(0), CutPlanner.NONE);
        Due.is("met already: check of none", p.check(), CutPlanner.NONE);
    }

    private static void leastCost() {
        Due.sentence("THE BEST PLAN has the least cost of all plans (the sum of its actions' costs)");
        CutPlanner p = Due.withFacts("---------g");
        Due.newAction(p, 9, "", "9", "");
        for (int k = 0; k < 8; k++) {
            Due.newAction(p, 1, k == 0 ? "" : "" + (k - 1), k == 7 ? "9" : "" + k, "");
        }
        Due.is("eight of 1 before one of 9", p.plan(), 8);
        Due.same("eight of 1 before one of 9", Due.foundPlan(p), "1 2 3 4 5 6 7 8 ");
        CutPlanner dear = Due.withFacts("-g");
        Due.newAction(dear, 1, "", "0", "");
        Due.newAction(dear, 9, "0", "1", "");
        Due.newAction(dear, 9, "", "1", "");
        Due.is("one of 9 before two of 10", dear.plan(), 9);
        Due.same("one of 9 before two of 10", Due.foundPlan(dear), "2 ");
    }

    private static void lesserAction() {
        Due.sentence("of several such ones it is the one with the lesser action at the first place at which two "
            + "differ.");
        CutPlanner same = Due.withFacts("g");
        Due.newAction(same, 3, "", "0", "");
        Due.newAction(same, 3, "", "0", "");
        same.plan();
        Due.same("two that do the same", Due.foundPlan(same), "0 ");

        CutPlanner late = Due.withFacts("---g");
        Due.newAction(late, 1, "1", "3", "");
        Due.newAction(late, 1, "0", "3", "");
        Due.newAction(late, 1, "", "0", "");
        Due.newAction(late, 1, "", "1", "");
        late.plan();
        Due.same("the first place counts, not the last", Due.foundPlan(late), "2 1 ");

        CutPlanner order = Due.withFacts("ggg");
        Due.newAction(order, 3, "", "2", "");
        Due.newAction(order, 1, "", "0", "");
        Due.newAction(order, 2, "", "1", "");
        order.plan();
        Due.same("any order would do", Due.foundPlan(order), "0 1 2 ");

        CutPlanner second = Due.withFacts("f--g");
        Due.newAction(second, 2, "0", "1", "0");
        Due.newAction(second, 3, "1", "3", "");
        Due.newAction(second, 1, "1", "2", "");
        Due.newAction(second, 2, "2", "3", "");
        second.plan();
        Due.same("they differ at the second place", Due.foundPlan(second), "0 1 ");

        CutPlanner ends = Due.withFacts("-gf");
        Due.newAction(ends, 4, "2", "1", "2");
        Due.newAction(ends, 2, "", "0", "2");
        Due.newAction(ends, 2, "0", "1", "");
        ends.plan();
        Due.same("they lead to other states", Due.foundPlan(ends), "0 ");
    }

    private static void fullDraft() {
        Due.sentence("THE DRAFT is a row of at most 24 actions.");
        CutPlanner p = Due.withFacts("f-g");
        Due.newAction(p, 1, "0", "1", "0");
        Due.newAction(p, 1, "1", "0", "1");
        Due.newAction(p, 1, "0", "2", "");
        for (int k = 0; k < 23; k++) {
            Due.is("draft", p.draft(k == 22 ? 2 : k % 2), k + 1);
        }
        Due.is("23: a plan", p.check(), CutPlanner.NONE);
        Due.is("the 24th", p.draft(1), 24);
        Due.is("the 24th is looked at", p.check(), 23);
        Due.is("the 24th is counted", p.cost(), 24);
    }

    private static void addingClears() {
        Due.sentence("To add a fact, an action or a link clears the draft, and the state at hand is the first one "
            + "then.");
        for (int way = 0; way < 5; way++) {
            CutPlanner p = Due.withFacts("fg-");
            Due.newAction(p, 4, "", "1", "0");
            p.apply(0);
            p.draft(0);
            String what = add(p, way);
            Due.same(what + ": state", Due.held(p, 3), "100");
            Due.is(what + ": draft's cost", p.cost(), 0);
            Due.is(what + ": the draft is no plan", p.check(), 0);
            Due.is(what + ": the draft's next is its first", p.draft(0), 1);
        }
    }

    private static String add(CutPlanner p, int way) {
        if (way == 0) {
            p.fact(false, false);
            return "a fact";
        }
        if (way == 1) {
            p.action(9);
            return "an action";
        }
        p.link(way - 2, 0, 2);
        return "a link of kind " + (way - 2);
    }
}
