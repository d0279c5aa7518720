/** Promises 14 to 18: level, bound, cuts, cut, landmark. */
public final class BoundTest {
    private BoundTest() {
    }

    public static void main(String[] args) {
        promise14Level();
        promise14LevelThatFeedsItself();
        promise14Refuses();
        promise15Bound();
        promise15GreatestWeights();
        promise16And17Cuts();
        promise16And17NoCuts();
        promise17BaseOfEqualsIsTheLeast();
        promise17BaseGoesByLevels();
        promise17LongChains();
        promise17UnreachableNeeds();
        promise17MostCuts();
        promise18Landmark();
        promise18Refuses();
        Due.end();
    }

    private static void promise14Level() {
        CutPlanner p = Due.withFacts("f----");
        Due.newAction(p, 2, "0", "1", "0");
        Due.newAction(p, 3, "", "2", "");
        Due.newAction(p, 4, "12", "3", "");
        levels(p, 0, 0, 0);
        levels(p, 1, 2, 2);
        levels(p, 2, 3, 3);
        levels(p, 3, 7, 9);
        levels(p, 4, CutPlanner.NONE, CutPlanner.NONE);
        Due.newAction(p, 8, "2", "3", "");
        levels(p, 3, 7, 9);
        Due.newAction(p, 5, "2", "3", "");
        levels(p, 3, 7, 8);
        p.apply(0);
        levels(p, 0, CutPlanner.NONE, CutPlanner.NONE);
        levels(p, 1, 0, 0);
        levels(p, 3, 7, 7);
        CutPlanner partly = Due.withFacts("f--");
        Due.newAction(partly, 1, "02", "1", "");
        levels(partly, 1, CutPlanner.NONE, CutPlanner.NONE);
    }

    private static void levels(CutPlanner p, int fact, int level, int weight) {
        Due.is("level(" + fact + ", false)", p.level(fact, false), level);
        Due.is("level(" + fact + ", true)", p.level(fact, true), weight);
    }

    private static void promise14LevelThatFeedsItself() {
        CutPlanner p = Due.withFacts("---");
        Due.newAction(p, 1, "1", "0", "");
        Due.newAction(p, 1, "0", "1", "");
        Due.newAction(p, 1, "2", "2", "");
        levels(p, 0, CutPlanner.NONE, CutPlanner.NONE);
        levels(p, 1, CutPlanner.NONE, CutPlanner.NONE);
        levels(p, 2, CutPlanner.NONE, CutPlanner.NONE);
        Due.newAction(p, 6, "", "1", "");
        levels(p, 0, 7, 7);
        levels(p, 1, 6, 6);
    }

    private static void promise14Refuses() {
        CutPlanner p = Due.withFacts("f-");
        int[] bad = {-1, 2, 9, 10, 32, Integer.MIN_VALUE, Integer.MAX_VALUE};
        for (int fact : bad) {
            Due.refused("level(" + fact + ", false)", p, IndexOutOfBoundsException.class, () -> p.level(fact, false));
            Due.refused("level(" + fact + ", true)", p, IndexOutOfBoundsException.class, () -> p.level(fact, true));
        }
    }

    private static void promise15Bound() {
        CutPlanner p = Due.withFacts("gg-");
        Due.is("no way: bound", p.bound(false), CutPlanner.NONE);
        Due.newAction(p, 2, "", "0", "");
        Due.is("one of two has no level", p.bound(false), CutPlanner.NONE);
        Due.is("one of two has no weight", p.bound(true), CutPlanner.NONE);
        Due.newAction(p, 3, "", "1", "");
        Due.is("greatest level", p.bound(false), 3);
        Due.is("sum of weights", p.bound(true), 5);
        p.apply(1);
        Due.is("greatest level at hand", p.bound(false), 2);
        Due.is("sum of weights at hand", p.bound(true), 2);
        p.apply(0);
        Due.is("met: bound", p.bound(false), 0);
        Due.is("met: bound by weights", p.bound(true), 0);
        Due.is("no goal: bound", Due.withFacts("--").bound(false), 0);
        Due.is("no goal: bound by weights", Due.withFacts("--").bound(true), 0);
    }

    /** Each fact needs all before it, so its weight is twice as great as the last one's. */
    private static void promise15GreatestWeights() {
        CutPlanner p = Due.withFacts("gggggggggg");
        for (int k = 9; k >= 0; k--) {
            Due.newAction(p, 9, "0123456789".substring(0, k), "" + k, "");
        }
        for (int k = 0; k < 10; k++) {
            levels(p, k, 9 * (k + 1), 9 << k);
        }
        Due.is("greatest level", p.bound(false), 90);
        Due.is("greatest sum of weights", p.bound(true), 9 * 1023);
        Due.is("cuts: all", p.cuts(), 90);
        Due.is("plan: all", p.plan(), 90);
    }

    private static void cuts(String what, CutPlanner p, int bound, int... cuts) {
        Due.is(what + ": cuts", p.cuts(), bound);
        for (int k = 0; k < cuts.length; k++) {
            Due.is(what + ": cut(" + k + ")", p.cut(k), cuts[k]);
        }
        int[] none = {-1, cuts.length, cuts.length + 1, 12, Integer.MIN_VALUE, Integer.MAX_VALUE};
        for (int k : none) {
            Due.is(what + ": cut(" + k + ")", p.cut(k), 0);
        }
    }

    private static void promise16And17Cuts() {
        CutPlanner p = Due.withFacts("gg");
        Due.newAction(p, 3, "", "0", "");
        Due.newAction(p, 3, "", "1", "");
        Due.newAction(p, 5, "", "01", "");
        cuts("two goals", p, 5, 5, 6);
        p.apply(0);
        cuts("one goal left", p, 3, 6);
        p.reset();
        cuts("two goals again", p, 5, 5, 6);

        CutPlanner chain = Due.withFacts("f-g");
        Due.newAction(chain, 2, "0", "1", "");
        Due.newAction(chain, 3, "1", "2", "");
        Due.newAction(chain, 4, "0", "2", "");
        cuts("two ways", chain, 4, 6, 5);
        Due.is("two ways: level", chain.bound(false), 4);
    }

    private static void promise16And17NoCuts() {
        CutPlanner p = Due.withFacts("b-");
        Due.newAction(p, 1, "", "1", "0");
        cuts("met", p, 0);
        p.apply(0);
        cuts("no way", p, CutPlanner.NONE);
        cuts("no goal", Due.withFacts("f-"), 0);
        CutPlanner half = Due.withFacts("gg");
        Due.newAction(half, 1, "", "0", "");
        cuts("one of two goals has no way", half, CutPlanner.NONE);
    }

    /** Action 2 needs facts 0 and 1 of one level: its base is 0, so only action 0 leads into the zone. */
    private static void promise17BaseOfEqualsIsTheLeast() {
        CutPlanner p = Due.withFacts("--g");
        Due.newAction(p, 2, "", "0", "");
        Due.newAction(p, 2, "", "1", "");
        Due.newAction(p, 1, "01", "2", "");
        cuts("base of equals", p, 5, 4, 1, 2);
        CutPlanner goals = Due.withFacts("-gg");
        Due.newAction(goals, 2, "", "2", "");
        Due.newAction(goals, 2, "", "1", "");
        cuts("goal's base of equals", goals, 4, 2, 1);
        CutPlanner higher = Due.withFacts("gg");
        Due.newAction(higher, 2, "", "0", "");
        Due.newAction(higher, 3, "", "1", "");
        cuts("goal's base has the greatest level", higher, 5, 2, 1);
    }

    /** Fact 2 has level 4 and weight 7, fact 3 level and weight 5: the base of both is 3. */
    private static void promise17BaseGoesByLevels() {
        CutPlanner p = Due.withFacts("----g");
        Due.newAction(p, 3, "", "0", "");
        Due.newAction(p, 3, "", "1", "");
        Due.newAction(p, 1, "01", "2", "");
        Due.newAction(p, 5, "", "3", "");
        Due.newAction(p, 2, "23", "4", "");
        cuts("base by levels", p, 14, 16, 8, 4, 1, 2);
    }

    /** The zone grows against the order of the actions, or the rest does. */
    private static void promise17LongChains() {
        CutPlanner up = Due.withFacts("---------g");
        CutPlanner down = Due.withFacts("---------g");
        int[] cutsUp = new int[10];
        int[] cutsDown = new int[10];
        for (int k = 0; k < 10; k++) {
            Due.newAction(up, 1 + k % 9, k == 0 ? "" : "" + (k - 1), "" + k, "");
            int fact = 9 - k;
            Due.newAction(down, 1 + k % 9, fact == 0 ? "" : "" + (fact - 1), "" + fact, "");
            cutsUp[k] = 1 << 9 - k;
            cutsDown[k] = 1 << k;
        }
        cuts("chain up", up, 46, cutsUp);
        cuts("chain down", down, 46, cutsDown);
    }

    private static void promise17UnreachableNeeds() {
        CutPlanner p = Due.withFacts("f-g");
        Due.newAction(p, 2, "0", "2", "");
        Due.newAction(p, 1, "01", "2", "");
        Due.newAction(p, 1, "1", "2", "");
        cuts("actions without a base are in no cut", p, 2, 1);
    }

    private static void promise17MostCuts() {
        CutPlanner p = Due.withFacts("gggggggggg");
        int[] due = new int[10];
        for (int k = 0; k < 10; k++) {
            Due.newAction(p, 9 - k % 9, "", "" + k, "");
        }
        int[] order = {0, 9, 1, 2, 3, 4, 5, 6, 7, 8};
        int bound = 9;
        for (int k = 0; k < 10; k++) {
            due[k] = 1 << order[k];
            bound += k < 9 ? 9 - k : 0;
        }
        cuts("one cut a goal", p, bound, due);
    }

    private static void promise18Landmark() {
        CutPlanner p = Due.withFacts("f---g");
        Due.newAction(p, 1, "0", "1", "0");
        Due.newAction(p, 1, "1", "2", "");
        Due.newAction(p, 1, "1", "3", "");
        Due.newAction(p, 1, "2", "4", "");
        landmarks(p, "11101");
        Due.newAction(p, 1, "3", "4", "");
        landmarks(p, "11001");
        p.apply(0);
        landmarks(p, "01001");
        p.apply(1);
        landmarks(p, "01101");
        p.reset();
        p.fact(false, true);
        landmarks(p, "111111");

        CutPlanner along = Due.withFacts("--g");
        Due.newAction(along, 1, "", "012", "");
        Due.newAction(along, 9, "", "12", "");
        landmarks(along, "011");
        landmarks(Due.withFacts("f--"), "100");
    }

    private static void landmarks(CutPlanner p, String due) {
        for (int fact = 0; fact < due.length(); fact++) {
            Due.is("landmark(" + fact + ")", p.landmark(fact), due.charAt(fact) == '1');
        }
    }

    private static void promise18Refuses() {
        CutPlanner p = Due.withFacts("fg");
        int[] bad = {-1, 2, 9, 10, 32, Integer.MIN_VALUE, Integer.MAX_VALUE};
        for (int fact : bad) {
            Due.refused("landmark(" + fact + ")", p, IndexOutOfBoundsException.class, () -> p.landmark(fact));
        }
    }
}
