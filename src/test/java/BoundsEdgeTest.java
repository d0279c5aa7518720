/** The section "Terms" on levels, weights, cuts and landmarks: each boundary case, by its words. */
public final class BoundsEdgeTest {
    private BoundsEdgeTest() {
    }

    public static void main(String[] args) {
        levelOfTrue();
        levelIsTheLeast();
        levelOfNeeds();
        weights();
        none();
        greatestLevels();
        goalWithoutFacts();
        noCuts();
        costsBecomeLess();
        actionWithoutBase();
        leastBase();
        baseByCosts();
        startAsBase();
        goalBase();
        zone();
        rest();
        cutIsAll();
        price();
        cutBound();
        landmarks();
        Due.end();
    }

    private static void levelOfTrue() {
        Due.sentence("The LEVEL of a fact is 0 if it is true");
        CutPlanner p = Due.withFacts("f-");
        Due.newAction(p, 5, "", "0", "");
        Due.newAction(p, 2, "", "1", "0");
        heights("true, though an action adds it", p, "0 2", "0 2");
        p.apply(1);
        heights("no longer true", p, "5 0", "5 0");
    }

    private static void levelIsTheLeast() {
        Due.sentence("otherwise the least, over all actions that add it");
        CutPlanner p = Due.withFacts("-f-");
        Due.newAction(p, 7, "", "0", "");
        Due.newAction(p, 6, "1", "0", "");
        Due.newAction(p, 8, "", "0", "");
        heights("three add it", p, "6 0 -1", "6 0 -1");
        Due.newAction(p, 1, "2", "0", "");
        heights("a fourth has no level", p, "6 0 -1", "6 0 -1");
        Due.newAction(p, 4, "", "2", "");
        heights("now it has", p, "5 0 4", "5 0 4");
    }

    private static void levelOfNeeds() {
        Due.sentence("of the action's c plus the greatest level of what the action needs (0 if it needs nothing)");
        CutPlanner p = Due.withFacts("f----");
        Due.newAction(p, 3, "", "1", "");
        Due.newAction(p, 4, "", "2", "");
        Due.newAction(p, 1, "012", "3", "");
        Due.newAction(p, 9, "0", "4", "");
        heights("nothing, true facts, several", p, "0 3 4 5 9", "0 3 4 8 9");
    }

    private static void weights() {
        Due.sentence("WEIGHTS likewise, but with the sum of the weights of what it needs.");
        CutPlanner p = Due.withFacts("---f-");
        Due.newAction(p, 3, "", "0", "");
        Due.newAction(p, 3, "", "1", "");
        Due.newAction(p, 1, "013", "2", "");
        Due.newAction(p, 5, "0", "2", "");
        heights("the least weight", p, "3 3 4 0 -1", "3 3 7 0 -1");
        Due.newAction(p, 3, "0", "2", "");
        heights("another is lighter, not lower", p, "3 3 4 0 -1", "3 3 6 0 -1");
        Due.newAction(p, 1, "02", "4", "");
        heights("a weight counts in each that needs it", p, "3 3 4 0 5", "3 3 6 0 10");
    }

    private static void none() {
        Due.sentence("NONE is more than all numbers: the greatest of some, a sum, and the least of no actions, "
            + "may be NONE.");
        CutPlanner p = Due.withFacts("---g");
        Due.newAction(p, 1, "", "0", "");
        Due.newAction(p, 1, "01", "2", "");
        heights("no action adds 1, so 2 and 3 have none", p, "1 -1 -1 -1", "1 -1 -1 -1");
        Due.is("bound", p.bound(false), CutPlanner.NONE);
        Due.is("bound by weights", p.bound(true), CutPlanner.NONE);
        Due.newAction(p, 9, "0", "2", "");
        heights("the least of NONE and a number", p, "1 -1 10 -1", "1 -1 10 -1");
        CutPlanner all = Due.withFacts("gggggggggg");
        Due.newAction(all, 9, "123456789", "0", "");
        Due.is("nine times NONE", all.level(0, true), CutPlanner.NONE);
        Due.is("ten times NONE", all.bound(true), CutPlanner.NONE);
    }

    private static void greatestLevels() {
        Due.sentence("Levels and weights are the greatest for which that is so of all facts.");
        CutPlanner p = Due.withFacts("g--");
        Due.newAction(p, 1, "0", "0", "");
        Due.newAction(p, 1, "2", "1", "");
        Due.newAction(p, 1, "1", "2", "");
        heights("each needs itself", p, "-1 -1 -1", "-1 -1 -1");

        CutPlanner last = Due.withFacts("----------");
        for (int k = 9; k >= 0; k--) {
            Due.newAction(last, 1, k == 0 ? "" : "" + (k - 1), "" + k, "");
        }
        heights("ten, one from the other", last, "1 2 3 4 5 6 7 8 9 10", "1 2 3 4 5 6 7 8 9 10");

        CutPlanner zero = Due.withFacts("gg");
        Due.newAction(zero, 5, "", "0", "");
        Due.newAction(zero, 5, "", "1", "");
        Due.newAction(zero, 1, "0", "1", "");
        Due.newAction(zero, 1, "1", "0", "");
        Due.same("two facts that are added from each other with c 0", Due.foundCuts(zero), "6: 03 12 01");
    }

    private static void goalWithoutFacts() {
        Due.sentence("THE GREATEST LEVEL of the goal is that of its facts, 0 if there are none; THE SUM of its "
            + "weights likewise.");
        CutPlanner p = Due.withFacts("--");
        Due.newAction(p, 3, "", "0", "");
        Due.is("no goal: bound", p.bound(false), 0);
        Due.is("no goal: bound by weights", p.bound(true), 0);
        Due.is("no goal: cuts", p.cuts(), 0);
        p.fact(false, true);
        p.link(Due.ADDS, 0, 2);
        Due.is("one: bound", p.bound(false), 3);
        Due.is("one: bound by weights", p.bound(true), 3);
        p.fact(false, true);
        Due.newAction(p, 2, "", "3", "");
        Due.is("two: bound", p.bound(false), 3);
        Due.is("two: bound by weights", p.bound(true), 5);
    }

    private static void noCuts() {
        Due.sentence("while the goal's greatest level, by c, which are at first the own costs, is neither 0 nor "
            + "NONE, there is another cut");
        CutPlanner p = Due.withFacts("bb");
        Due.newAction(p, 1, "", "0", "1");
        Due.same("level 0", Due.foundCuts(p), "0:");
        p.apply(0);
        Due.same("one of two has the level NONE", Due.foundCuts(p), "-1:");
        Due.newAction(p, 9, "0", "1", "");
        p.apply(0);
        Due.same("level 9", Due.foundCuts(p), "9: 1");
        Due.same("again, by the own costs", Due.foundCuts(p), "9: 1");
    }

    private static void costsBecomeLess() {
        Due.sentence("their c become less by that");
        CutPlanner p = Due.withFacts("gg");
        Due.newAction(p, 4, "", "0", "");
        Due.newAction(p, 6, "", "01", "");
        Due.newAction(p, 3, "", "1", "");
        Due.same("the one with 6 is paid off in two cuts", Due.foundCuts(p), "6: 01 12");
        p.draft(1);
        Due.is("the own costs stay: cost", p.cost(), 6);
        Due.is("the own costs stay: level", p.level(0, false), 4);
        Due.is("the own costs stay: plan", p.plan(), 6);
    }

    private static void actionWithoutBase() {
        Due.sentence("each action that needs no fact with the level NONE has a BASE");
        CutPlanner p = Due.withFacts("f-g");
        Due.newAction(p, 2, "0", "2", "");
        Due.newAction(p, 1, "01", "2", "");
        Due.same("it is in no cut", Due.foundCuts(p), "2: 0");

        CutPlanner behind = Due.withFacts("f-g-");
        Due.newAction(behind, 3, "0", "2", "");
        Due.newAction(behind, 1, "2", "3", "");
        Due.newAction(behind, 1, "3", "2", "");
        Due.newAction(behind, 1, "01", "3", "");
        Due.same("it brings nothing into the rest", Due.foundCuts(behind), "3: 0");
    }

    private static void leastBase() {
        Due.sentence("of the facts that it needs the one with the greatest level (by c), the least one of several");
        CutPlanner equal = Due.withFacts("--g");
        Due.newAction(equal, 2, "", "1", "");
        Due.newAction(equal, 2, "", "0", "");
        Due.newAction(equal, 1, "01", "2", "");
        Due.same("two of one level", Due.foundCuts(equal), "5: 2 1 0");
        CutPlanner greater = Due.withFacts("--g");
        Due.newAction(greater, 2, "", "0", "");
        Due.newAction(greater, 3, "", "1", "");
        Due.newAction(greater, 1, "01", "2", "");
        Due.same("the later one has the greater level", Due.foundCuts(greater), "6: 2 1 0");
        CutPlanner heavy = Due.withFacts("----g");
        Due.newAction(heavy, 3, "", "0", "");
        Due.newAction(heavy, 3, "", "1", "");
        Due.newAction(heavy, 1, "01", "2", "");
        Due.newAction(heavy, 5, "", "3", "");
        Due.newAction(heavy, 2, "23", "4", "");
        Due.same("the earlier one has the greater weight, not level", Due.foundCuts(heavy), "14: 4 3 2 0 1");
        CutPlanner truth = Due.withFacts("f-fg");
        Due.newAction(truth, 4, "", "1", "");
        Due.newAction(truth, 1, "012", "3", "");
        Due.same("true facts have the least level", Due.foundCuts(truth), "5: 1 0");
        CutPlanner allTrue = Due.withFacts("ffg");
        Due.newAction(allTrue, 4, "01", "2", "");
        Due.same("all that it needs are true", Due.foundCuts(allTrue), "4: 0");
    }

    /** Action 2 needs facts 0 and 1; 0 has the greater level until the cut of the action that adds it. */
    private static void baseByCosts() {
        Due.sentence("the one with the greatest level (by c)");
        CutPlanner p = Due.withFacts("--g");
        Due.newAction(p, 3, "", "0", "");
        Due.newAction(p, 2, "", "1", "");
        Due.newAction(p, 1, "01", "2", "");
        Due.same("the base changes as c do", Due.foundCuts(p), "6: 2 0 1");
        CutPlanner more = Due.withFacts("--gg");
        Due.newAction(more, 4, "", "0", "");
        Due.newAction(more, 3, "", "1", "");
        Due.newAction(more, 5, "01", "2", "");
        Due.newAction(more, 2, "", "13", "");
        Due.same("the later need is the base at last", Due.foundCuts(more), "11: 2 0 13");
    }

    private static void startAsBase() {
        Due.sentence("the START, if it needs nothing");
        CutPlanner p = Due.withFacts("fg");
        Due.newAction(p, 4, "", "1", "");
        Due.newAction(p, 6, "0", "1", "");
        Due.same("from the START and from a true fact", Due.foundCuts(p), "4: 01");
        CutPlanner nothing = Due.withFacts("-g");
        Due.newAction(nothing, 2, "", "0", "");
        Due.newAction(nothing, 1, "0", "1", "");
        Due.same("no fact is true", Due.foundCuts(nothing), "3: 1 0");
    }

    private static void goalBase() {
        Due.sentence("The goal's base is likewise one of its facts.");
        CutPlanner equal = Due.withFacts("-gg");
        Due.newAction(equal, 2, "", "2", "");
        Due.newAction(equal, 2, "", "1", "");
        Due.same("two of one level", Due.foundCuts(equal), "4: 1 0");
        CutPlanner later = Due.withFacts("gg");
        Due.newAction(later, 2, "", "0", "");
        Due.newAction(later, 3, "", "1", "");
        Due.same("the later one has the greater level", Due.foundCuts(later), "5: 1 0");
        CutPlanner some = Due.withFacts("bg-");
        Due.newAction(some, 1, "", "1", "");
        Due.newAction(some, 9, "", "2", "");
        Due.same("not a fact outside the goal, nor a true one", Due.foundCuts(some), "1: 0");
    }

    private static void zone() {
        Due.sentence("The ZONE: the goal's base, and each fact that is the base of an action, with c 0, that adds "
            + "a fact of the zone");
        CutPlanner chain = Due.withFacts("f--g");
        Due.newAction(chain, 1, "2", "3", "");
        Due.newAction(chain, 2, "1", "2", "");
        Due.newAction(chain, 3, "0", "1", "");
        Due.same("one fact more with each cut", Due.foundCuts(chain), "6: 0 1 2");
        CutPlanner paid = Due.withFacts("f--g");
        Due.newAction(paid, 1, "1", "3", "");
        Due.newAction(paid, 2, "2", "3", "");
        Due.newAction(paid, 5, "0", "1", "");
        Due.newAction(paid, 5, "0", "2", "");
        Due.same("the base of an action with c above 0 is not in it", Due.foundCuts(paid), "6: 01 12 23");
        CutPlanner needs = Due.withFacts("f--g");
        Due.newAction(needs, 1, "12", "3", "");
        Due.newAction(needs, 4, "0", "1", "");
        Due.newAction(needs, 2, "0", "2", "");
        Due.same("what else such an action needs is not in it", Due.foundCuts(needs), "7: 0 1 2");
    }

    private static void rest() {
        Due.sentence("The REST: all facts that are true and the START, and each fact that is added by an action "
            + "whose base is in the rest; but none of those in the zone.");
        CutPlanner far = Due.withFacts("f----g");
        Due.newAction(far, 9, "4", "5", "");
        Due.newAction(far, 1, "3", "4", "");
        Due.newAction(far, 1, "2", "3", "");
        Due.newAction(far, 1, "1", "2", "");
        Due.newAction(far, 1, "0", "1", "");
        Due.same("facts that are added one from the other", Due.foundCuts(far), "13: 0 1 2 3 4");
        CutPlanner behind = Due.withFacts("f-g");
        Due.newAction(behind, 3, "0", "2", "");
        Due.newAction(behind, 1, "2", "1", "");
        Due.newAction(behind, 1, "1", "2", "");
        Due.same("what is added behind the zone alone is not in it", Due.foundCuts(behind), "3: 0");
        CutPlanner both = Due.withFacts("f-g");
        Due.newAction(both, 3, "0", "12", "");
        Due.newAction(both, 1, "1", "2", "");
        Due.same("an action adds a fact of each", Due.foundCuts(both), "3: 01 0");
    }

    private static void cutIsAll() {
        Due.sentence("The cut is the set of all actions whose base is in the rest and that add a fact of the zone.");
        CutPlanner p = Due.withFacts("g");
        for (int k = 0; k < 12; k++) {
            Due.newAction(p, 9 - k % 3, "", "0", "");
        }
        Due.same("all twelve", Due.foundCuts(p), "7: 0123456789ab");
        Due.is("their sum", p.cut(0), 4095);
        CutPlanner twelve = Due.withFacts("---------g");
        for (int k = 0; k < 12; k++) {
            Due.newAction(twelve, 1, "", k < 10 ? "" + k : "9", "");
        }
        Due.same("those that add to the zone", Due.foundCuts(twelve), "1: 9ab");
    }

    private static void price() {
        Due.sentence("The least c of these is its PRICE");
        CutPlanner p = Due.withFacts("g");
        Due.newAction(p, 9, "", "0", "");
        Due.newAction(p, 1, "", "0", "");
        Due.newAction(p, 5, "", "0", "");
        Due.same("1 of 9, 1 and 5", Due.foundCuts(p), "1: 012");
        CutPlanner dear = Due.withFacts("g");
        Due.newAction(dear, 9, "", "0", "");
        Due.newAction(dear, 9, "", "0", "");
        Due.same("9 of 9 and 9", Due.foundCuts(dear), "9: 01");
    }

    private static void cutBound() {
        Due.sentence("THE CUT BOUND is the sum of the prices of all cuts; NONE if the goal's greatest level is "
            + "NONE (then there are no cuts).");
        CutPlanner p = Due.withFacts("gggggggggg");
        for (int k = 0; k < 9; k++) {
            Due.newAction(p, 9, "", "" + k, "");
        }
        Due.same("nine of ten goals have a level", Due.foundCuts(p), "-1:");
        Due.newAction(p, 9, "", "9", "");
        Due.same("all have", Due.foundCuts(p), "90: 0 1 2 3 4 5 6 7 8 9");
    }

    private static void landmarks() {
        Due.sentence("A fact is a LANDMARK of the state at hand if it is true, or if, were there not those "
            + "actions that add it, some fact of the goal would have the level NONE.");
        Due.same("no goal: only what is true", landmarksOf(Due.withFacts("f-"), 2), "10");
        Due.same("met: only what is true", landmarksOf(Due.withFacts("bf-"), 3), "110");
        Due.same("no plan anyway: all", landmarksOf(Due.withFacts("f-g"), 3), "111");
        CutPlanner ways = Due.withFacts("--gg");
        Due.newAction(ways, 1, "", "0", "");
        Due.newAction(ways, 1, "0", "2", "");
        Due.newAction(ways, 1, "1", "2", "");
        Due.newAction(ways, 1, "", "1", "");
        Due.newAction(ways, 1, "2", "3", "");
        Due.same("two ways to a goal", landmarksOf(ways, 4), "0011");
        CutPlanner side = Due.withFacts("-g-g");
        Due.newAction(side, 1, "", "02", "");
        Due.newAction(side, 1, "", "1", "");
        Due.newAction(side, 1, "2", "3", "");
        Due.same("its actions add another fact, too", landmarksOf(side, 4), "1111");
        CutPlanner many = Due.withFacts("---g");
        for (int k = 0; k < 12; k++) {
            Due.newAction(many, 1, "", k < 11 ? "01" : "03", "");
        }
        Due.same("twelve actions add it", landmarksOf(many, 4), "1001");
        CutPlanner needed = Due.withFacts("f-g");
        Due.newAction(needed, 1, "01", "2", "0");
        Due.newAction(needed, 1, "0", "1", "0");
        Due.same("nothing becomes false", landmarksOf(needed, 3), "111");
        needed.apply(1);
        Due.same("a fact that was dropped", landmarksOf(needed, 3), "111");
        Due.newAction(needed, 9, "", "2", "");
        Due.same("another way", landmarksOf(needed, 3), "101");
        needed.apply(1);
        Due.same("another way, from the state at hand", landmarksOf(needed, 3), "011");
    }

    private static String landmarksOf(CutPlanner p, int facts) {
        StringBuilder text = new StringBuilder();
        for (int fact = 0; fact < facts; fact++) {
            text.append(p.landmark(fact) ? '1' : '0');
        }
        return text.toString();
    }

    private static void heights(String what, CutPlanner p, String levels, String weights) {
        int facts = levels.split(" ").length;
        Due.same(what + ": levels", Due.heights(p, facts, false), levels);
        Due.same(what + ": weights", Due.heights(p, facts, true), weights);
    }
}
