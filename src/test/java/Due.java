/** What the tests share: they say what is due, and every other answer is printed and counted. */
final class Due {
    static final int NEEDS = 0;
    static final int ADDS = 1;
    static final int DROPS = 2;

    private static int wrong = 0;
    private static String sentence = "";

    private Due() {
    }

    /** What follows tests these words of the document; they are printed with each wrong answer. */
    static void sentence(String words) {
        sentence = "[" + words + "] ";
    }

    static void is(String what, long got, long want) {
        if (got != want) {
            tell(what + " answered " + got + ", due is " + want);
        }
    }

    static void is(String what, boolean got, boolean want) {
        if (got != want) {
            tell(what + " answered " + got + ", due is " + want);
        }
    }

    static void same(String what, String got, String want) {
        if (!got.equals(want)) {
            tell(what + "\n  is  " + got + "\n  due " + want);
        }
    }

    /** The call must throw exactly this and leave all that can be asked of the object as it was. */
    static void refused(String what, CutPlanner planner, Class<? extends RuntimeException> kind, Runnable call) {
        String before = picture(planner);
        String thrown = "nothing";
        try {
            call.run();
        } catch (RuntimeException e) {
            thrown = e.getClass().getSimpleName();
        }
        same(what + " throws", thrown, kind.getSimpleName());
        same(what + " throws and changes something", picture(planner), before);
    }

    /**
     * All that can be asked of an object without changing it. With it an object may come to more
     * than the 512 calls that are promised; this program keeps no count of them.
     */
    static String picture(CutPlanner planner) {
        StringBuilder text = new StringBuilder();
        for (int fact = 0; fact < 11; fact++) {
            text.append(ofFact(planner, fact)).append(' ');
        }
        for (int action = 0; action < 13; action++) {
            text.append(ofAction(planner, action)).append(' ');
        }
        for (int k = -1; k <= planner.length(); k++) {
            text.append(planner.step(k)).append(',');
        }
        for (int k = -1; k < 13; k++) {
            text.append(planner.cut(k)).append(';');
        }
        return text.append(" states ").append(planner.states())
            .append(" bounds ").append(planner.bound(false)).append(' ').append(planner.bound(true))
            .append(" cuts ").append(planner.cuts()).append(" check ").append(planner.check())
            .append(" cost ").append(planner.cost()).append(" length ").append(planner.length()).toString();
    }

    private static String ofFact(CutPlanner planner, int fact) {
        StringBuilder text = new StringBuilder();
        try {
            text.append(planner.holds(fact));
        } catch (IndexOutOfBoundsException e) {
            return "no fact";
        }
        text.append(planner.landmark(fact));
        text.append(planner.level(fact, false)).append('/').append(planner.level(fact, true));
        for (int other = 0; other <= fact; other++) {
            text.append(planner.together(fact, other) ? '+' : '-');
        }
        return text.toString();
    }

    private static String ofAction(CutPlanner planner, int action) {
        try {
            return planner.applicable(action) ? "can" : "cannot";
        } catch (IndexOutOfBoundsException e) {
            return "no action";
        }
    }

    static void tell(String text) {
        wrong++;
        System.out.println(sentence + text);
    }

    /** Makes some facts, each written as first (f), goal (g), both (b) or neither (-). */
    static CutPlanner withFacts(String facts) {
        CutPlanner planner = new CutPlanner();
        for (int k = 0; k < facts.length(); k++) {
            char c = facts.charAt(k);
            planner.fact(c == 'f' || c == 'b', c == 'g' || c == 'b');
        }
        return planner;
    }

    /** Makes an action; needs, adds and drops are written as the digits of their facts. */
    static int newAction(CutPlanner planner, int cost, String needs, String adds, String drops) {
        int action = planner.action(cost);
        linkAll(planner, NEEDS, action, needs);
        linkAll(planner, ADDS, action, adds);
        linkAll(planner, DROPS, action, drops);
        return action;
    }

    private static void linkAll(CutPlanner planner, int kind, int action, String facts) {
        for (int k = 0; k < facts.length(); k++) {
            planner.link(kind, action, facts.charAt(k) - '0');
        }
    }

    /** The cut bound and all cuts, each as the digits (a and b for 10 and 11) of its actions. */
    static String foundCuts(CutPlanner planner) {
        StringBuilder text = new StringBuilder();
        text.append(planner.cuts()).append(':');
        for (int k = 0; k < 13 && planner.cut(k) != 0; k++) {
            text.append(' ');
            for (int action = 0; action < 31; action++) {
                if ((planner.cut(k) >> action & 1) != 0) {
                    text.append(Character.forDigit(action, 36));
                }
            }
        }
        return text.toString();
    }

    /** The facts that are true in the state at hand, as 1, and those that are not, as 0. */
    static String held(CutPlanner planner, int facts) {
        StringBuilder text = new StringBuilder();
        for (int fact = 0; fact < facts; fact++) {
            text.append(planner.holds(fact) ? '1' : '0');
        }
        return text.toString();
    }

    /** Levels, or weights, of the first facts. */
    static String heights(CutPlanner planner, int facts, boolean weight) {
        StringBuilder text = new StringBuilder();
        for (int fact = 0; fact < facts; fact++) {
            text.append(fact == 0 ? "" : " ").append(planner.level(fact, weight));
        }
        return text.toString();
    }

    /** The plan that was found last, as text. */
    static String foundPlan(CutPlanner planner) {
        StringBuilder text = new StringBuilder();
        for (int k = 0; k < planner.length(); k++) {
            text.append(planner.step(k)).append(' ');
        }
        return text.toString();
    }

    static void end() {
        if (wrong != 0) {
            System.out.println(wrong + " answers are not as due");
            System.exit(1);
        }
    }
}
