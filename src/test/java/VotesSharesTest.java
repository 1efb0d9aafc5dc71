/** Promises 28 to 35. */
public final class VotesSharesTest {
    public static void main(String[] args) {
        threshold();
        coalitions();
        coalitionsWithBarred();
        camps();
        shares();
        equalShares();
        wrongMembers();
        Check.end();
    }

    private static void threshold() {
        ThunderCartel x = new ThunderCartel();
        Check.denied("28 present", x, 7, 10, () -> x.setThreshold(10));
        Check.due("28 from 10", 10, x.setThreshold(1));
        Check.due("28 from 1", 1, x.setThreshold(99));
        Check.denied("28 present 99", x, 7, 99, () -> x.setThreshold(99));
        for (int votes : new int[] {0, 100, -1, Integer.MAX_VALUE, Integer.MIN_VALUE}) {
            Check.fails("28 " + votes, Check.ARGUMENT, () -> x.setThreshold(votes));
        }
        Check.due("28 stays", 99, x.setThreshold(50));
    }

    private static void coalition(String what, ThunderCartel x, int winners, int... swings) {
        Check.due("29 " + what, winners, x.winningCoalitions());
        for (int i = 0; i < swings.length; i++) {
            Check.due("30 " + what + " " + i, swings[i], x.swings(i));
            Check.due("31 " + what + " " + i, swings[i], x.swingsByCounts(i));
        }
    }

    private static void coalitions() {
        coalition("no members", new ThunderCartel(), 0);
        ThunderCartel x = Check.cartel(1, 7, 1, 3, 1, 3, 1, 12);
        // at least 10: all 8 with the last; of the others 7+3, 7+3, 7+3+3
        coalition("threshold 10", x, 11, 3, 1, 1, 5);
        x.setThreshold(1);
        coalition("threshold 1", x, 15, 1, 1, 1, 1);
        x.setThreshold(25);
        coalition("threshold of all", x, 1, 1, 1, 1, 1);
        x.setThreshold(26);
        coalition("threshold above all", x, 0, 0, 0, 0, 0);
        x.setThreshold(99);
        coalition("greatest threshold", x, 0, 0, 0, 0, 0);
        ThunderCartel y = Check.cartel(1, 20, 1, 20, 1, 20, 1, 20, 1, 20, 1, 20, 1, 20);
        y.setThreshold(80);
        // four of seven and more: 35 + 21 + 7 + 1; a swing is with three of six others
        coalition("seven alike", y, 64, 20, 20, 20, 20, 20, 20, 20);
        ThunderCartel z = Check.cartel(1, 10);
        coalition("one with enough", z, 1, 1);
        z.setThreshold(11);
        coalition("one with too few", z, 0, 0);
    }

    private static void coalitionsWithBarred() {
        ThunderCartel x = Check.cartel(9, 7, 9, 3, 9, 3, 9, 12);
        x.sell(0, 1);
        Check.barAll(x);
        Check.fails("30 barred", Check.ELEMENT, () -> x.swings(0));
        Check.fails("31 barred", Check.ELEMENT, () -> x.swingsByCounts(0));
        Check.due("29 barred", 4, x.winningCoalitions());
        Check.due("30 without it", 4, x.swings(3));
        Check.due("31 without it", 4, x.swingsByCounts(3));
        Check.due("30 no swing", 0, x.swings(1));
        Check.due("31 no swing", 0, x.swingsByCounts(1));
    }

    private static void camp(String what, int want, ThunderCartel x) {
        Check.due("32 " + what, want, x.leastDifference());
        Check.due("33 " + what, want, x.leastDifferenceBySums());
    }

    private static void camps() {
        camp("no members", 0, new ThunderCartel());
        camp("one", 17, Check.cartel(1, 17));
        camp("two", 13, Check.cartel(1, 20, 1, 7));
        camp("alike", 0, Check.cartel(1, 5, 1, 5));
        camp("three alike", 20, Check.cartel(1, 20, 1, 20, 1, 20));
        // three of them have at most 57 of the 119 votes
        camp("seven", 5, Check.cartel(1, 20, 1, 19, 1, 18, 1, 17, 1, 16, 1, 15, 1, 14));
        camp("seven greatest", 20, Check.cartel(1, 20, 1, 20, 1, 20, 1, 20, 1, 20, 1, 20, 1, 20));
        camp("three against two", 0, Check.cartel(1, 3, 1, 3, 1, 2, 1, 2, 1, 2));
        ThunderCartel x = Check.cartel(9, 7, 9, 3, 9, 3);
        camp("before", 1, x);
        x.sell(0, 1);
        Check.barAll(x);
        camp("with a barred one", 0, x);
        x.sell(1, 1);
        x.sell(2, 1);
        Check.barAll(x);
        camp("none active", 0, x);
    }

    private static void share(String what, ThunderCartel x, int... shares) {
        for (int i = 0; i < shares.length; i++) {
            Check.due("34 " + what + " " + i, shares[i], x.share(i));
            Check.due("35 " + what + " " + i, shares[i], x.shareBySteps(i));
        }
    }

    private static void shares() {
        ThunderCartel x = Check.cartel(99, 1, 99, 1);
        share("no excess", x, 0, 0);
        x.sell(0, 10);
        share("one excess", x, 20, 0);
        x.sell(1, 4);
        // 2 orders: 10 and 0, 6 and 4
        share("two", x, 16, 4);
        ThunderCartel y = Check.cartel(99, 1, 99, 1, 99, 1);
        y.sell(0, 3);
        y.sell(1, 9);
        y.sell(2, 5);
        // steps 3 by three, 2 by two, 4 by one; 6 orders
        share("three", y, 6, 36, 12);
        y.audit(3);
        Check.barAll(y);
        share("barred", y, 6, 36, 12);
        ThunderCartel one = Check.cartel(99, 1);
        one.sell(0, 99);
        share("alone", one, 99);
        one.assign(90);
        share("above the quota", one, 9);
    }

    private static void equalShares() {
        ThunderCartel x = Check.cartel(99, 1, 99, 1, 99, 1, 99, 1, 99, 1, 99, 1, 99, 1);
        for (int i = 0; i < 7; i++) {
            x.sell(i, 99);
        }
        int same = 99 * 720;
        share("seven alike", x, same, same, same, same, same, same, same);
        ThunderCartel y = Check.cartel(99, 1, 99, 1, 99, 1, 99, 1, 99, 1, 99, 1, 99, 1);
        y.sell(3, 99);
        share("one of seven", y, 0, 0, 0, 99 * 5040, 0, 0, 0);
        y.sell(6, 42);
        share("two of seven", y, 0, 0, 0, 57 * 5040 + 42 * 2520, 0, 0, 42 * 2520);
    }

    private static void wrongMembers() {
        ThunderCartel x = Check.cartel(9, 1, 9, 1);
        for (int member : new int[] {-1, 2, 7, Integer.MAX_VALUE, Integer.MIN_VALUE}) {
            Check.fails("30 " + member, Check.INDEX, () -> x.swings(member));
            Check.fails("31 " + member, Check.INDEX, () -> x.swingsByCounts(member));
            Check.fails("34 " + member, Check.INDEX, () -> x.share(member));
            Check.fails("35 " + member, Check.INDEX, () -> x.shareBySteps(member));
        }
    }
}
