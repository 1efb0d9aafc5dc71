/** Promises 28 to 35, sentence by sentence. */
final class VotesBoundaries {
    private static final int LEAST = Integer.MIN_VALUE;
    private static final int MOST = Integer.MAX_VALUE;

    private VotesBoundaries() {
    }

    static void run() {
        setThreshold();
        winningCoalitions();
        swings();
        swingsRefused();
        leastDifference();
        share();
        shareBySteps();
        sharesOfAll();
    }

    /** Members of capacity 9 with these votes. */
    private static ThunderCartel voters(int... votes) {
        ThunderCartel x = new ThunderCartel();
        for (int its : votes) {
            x.addMember(9, its);
        }
        return x;
    }

    private static ThunderCartel barred(ThunderCartel x, int... members) {
        for (int member : members) {
            x.sell(member, 1);
        }
        Check.barAll(x);
        return x;
    }

    private static void setThreshold() {
        Doc.says(28, "- `votes`: the threshold, 1 to 99");
        ThunderCartel x = new ThunderCartel();
        Check.due("initially", 10, x.setThreshold(1));
        Check.due("least", 1, x.setThreshold(99));
        Check.due("greatest", 99, x.setThreshold(98));
        Doc.says(28, "Throws `IllegalArgumentException` if the threshold is out of range");
        for (int votes : new int[] {0, 100, -1, LEAST, MOST}) {
            ThunderCartel y = voters(10);
            Check.refused("threshold " + votes, Check.ARGUMENT, y, () -> y.setThreshold(votes));
            Check.fails("nothing was denied", Check.ELEMENT, y::denial);
        }
        Doc.says(28, "Throws `UnsupportedOperationException` if denied: 7");
        for (int votes : new int[] {1, 99}) {
            ThunderCartel y = voters(10);
            Check.denied("the first", y, 7, 10, () -> y.setThreshold(10));
            y.setThreshold(votes);
            Check.denied("the present one", y, 7, votes, () -> y.setThreshold(votes));
        }
    }

    private static void winningCoalitions() {
        Doc.says(29, "Returns the number of coalitions that win.");
        Check.due("without members", 0, new ThunderCartel().winningCoalitions());
        ThunderCartel x = voters(1, 1, 1, 1, 1, 1, 1);
        Check.due("least: all of them have 7 votes", 0, x.winningCoalitions());
        x.setThreshold(7);
        Check.due("all of them", 1, x.winningCoalitions());
        x.setThreshold(1);
        Check.due("greatest: all but the empty one", 127, x.winningCoalitions());
        ThunderCartel y = voters(20, 20, 20, 20, 20, 20, 20);
        y.setThreshold(99);
        // five, six and seven of them: 21 + 7 + 1
        Check.due("at the greatest threshold", 29, y.winningCoalitions());
        Check.due("without active members", 0, barred(voters(20, 20), 0, 1).winningCoalitions());
    }

    private static void swing(String what, int want, ThunderCartel x, int member) {
        Check.due("30 and " + what, want, x.swings(member));
        Check.due("31 and " + what, want, x.swingsByCounts(member));
    }

    private static void swings() {
        Doc.says(30, "Returns the swings of a member, found by trying all coalitions.");
        ThunderCartel x = voters(20, 1, 1, 1, 1, 1, 1);
        swing("greatest: each coalition of the others", 64, x, 0);
        swing("least", 0, x, 6);
        x.setThreshold(20);
        swing("its votes are the threshold", 64, x, 0);
        x.setThreshold(7);
        swing("the others have one too few", 64, x, 0);
        x.setThreshold(6);
        swing("the others have enough", 63, x, 0);
        swing("with the five of 1 vote", 1, x, 6);
        x.setThreshold(26);
        swing("all of them", 1, x, 6);
        x.setThreshold(27);
        swing("more than all have", 0, x, 0);
        x.setThreshold(1);
        swing("the empty coalition alone", 1, x, 6);
        Doc.says(31, "Returns the same number as swings, found by counting the coalitions of the other active "
            + "members for each number of votes.");
        // so many coalitions of six others have nobody, one, two, three and four in them
        int[] ways = {1, 6, 15, 20, 15};
        for (int threshold = 1; threshold <= 99; threshold++) {
            ThunderCartel y = voters(20, 20, 20, 20, 20, 20, 20);
            if (threshold != 10) {
                y.setThreshold(threshold);
            }
            swing("seven alike, threshold " + threshold, ways[(threshold - 1) / 20], y, threshold % 7);
        }
        Check.due("31 and one with too few", 0, voters(9).swingsByCounts(0));
        Check.due("31 and one with enough", 1, voters(10).swingsByCounts(0));
    }

    private static void swingsRefused() {
        Doc.says(30, "Throws `IndexOutOfBoundsException` if there is no such member");
        Check.noMember("member", ThunderCartel::swings);
        Doc.says(31, "Throws `IndexOutOfBoundsException` if there is no such member");
        Check.noMember("member", ThunderCartel::swingsByCounts);
        ThunderCartel x = barred(voters(20, 9, 8), 0);
        Doc.says(30, "Throws `NoSuchElementException` if it is barred");
        Check.refused("barred", Check.ELEMENT, x, () -> x.swings(0));
        Check.due("not barred", 1, x.swings(1));
        Doc.says(31, "Throws `NoSuchElementException` if it is barred");
        Check.refused("barred", Check.ELEMENT, x, () -> x.swingsByCounts(0));
        Check.due("not barred", 1, x.swingsByCounts(2));
        x.pardon(0);
        swing("pardoned", 3, x, 0);
        ThunderCartel last = barred(voters(1, 1, 1, 1, 1, 1, 20), 6);
        Check.refused("the last", Check.ELEMENT, last, () -> last.swings(6));
        Check.refused("the last by counts", Check.ELEMENT, last, () -> last.swingsByCounts(6));
    }

    private static void camps(String what, int want, ThunderCartel x) {
        Check.due("32 and " + what, want, x.leastDifference());
        Check.due("33 and " + what, want, x.leastDifferenceBySums());
    }

    private static void leastDifference() {
        Doc.says(32, "Returns the least difference of camps, found by trying all sets.");
        camps("one of 1 vote", 1, voters(1));
        camps("one of 20 votes", 20, voters(20));
        camps("two", 19, voters(1, 20));
        camps("seven of 20 votes", 20, voters(20, 20, 20, 20, 20, 20, 20));
        camps("seven of 1 vote", 1, voters(1, 1, 1, 1, 1, 1, 1));
        camps("the first against all others", 0, voters(18, 3, 3, 3, 3, 3, 3));
        camps("the last against all others", 0, voters(3, 3, 3, 3, 3, 3, 18));
        Doc.says(32, "Returns the difference, 0 without active members.");
        Check.due("without members", 0, new ThunderCartel().leastDifference());
        Check.due("without active members", 0, barred(voters(20, 7), 0, 1).leastDifference());
        Doc.says(33, "Returns the same difference as leastDifference, found by the sums of votes that a camp can "
            + "have.");
        Check.due("without members", 0, new ThunderCartel().leastDifferenceBySums());
        Check.due("without active members", 0, barred(voters(20, 7), 0, 1).leastDifferenceBySums());
        camps("a barred one is in no camp", 10, barred(voters(5, 10), 0));
        camps("the last one is barred", 4, barred(voters(5, 1, 3), 2));
    }

    private static void share() {
        Doc.says(34, "Returns the share of a member, found by going through all orders of all members.");
        ThunderCartel x = Check.members(7);
        Check.due("least", 0, x.share(6));
        x.sell(6, 99);
        Check.due("greatest", 99 * 5040, x.share(6));
        Check.due("another one", 0, x.share(0));
        ThunderCartel one = Check.members(1);
        one.sell(0, 1);
        Check.due("of the only one", 1, one.share(0));
        ThunderCartel barred = Check.members(2);
        barred.sell(1, 5);
        Check.barAll(barred);
        Check.due("barred ones have one too", 10, barred.share(1));
        Doc.says(34, "Throws `IndexOutOfBoundsException` if there is no such member");
        Check.noMember("member", ThunderCartel::share);
    }

    private static void shareBySteps() {
        Doc.says(35, "Returns the same share as share, found by going up from the smallest excess: each step from "
            + "one excess to the next greater one is borne alike by all members whose excess is not smaller.");
        // each answer is the first one of its object, so nothing can be left over from share
        ThunderCartel x = Check.members(7);
        Check.due("least", 0, x.shareBySteps(0));
        x.sell(0, 99);
        Check.due("greatest", 99 * 5040, x.shareBySteps(0));
        x.assign(300);
        Check.due("the quota is 43", 56 * 5040, x.shareBySteps(0));
        ThunderCartel seven = Check.members(7);
        for (int i = 0; i < 7; i++) {
            seven.sell(i, i + 1);
        }
        int want = 0;
        for (int i = 0; i < 7; i++) {
            want += 5040 / (7 - i);
            Check.due("step by step " + i, want, seven.shareBySteps(i));
        }
        Doc.says(35, "Throws `IndexOutOfBoundsException` if there is no such member");
        Check.noMember("member", ThunderCartel::shareBySteps);
    }

    /** The shares of all members are the common fine of all, once for each order. */
    private static void sharesOfAll() {
        Doc.says(35, "Returns the share.");
        int orders = 1;
        for (int count = 1; count <= 7; count++) {
            orders *= count;
            ThunderCartel x = Check.members(count);
            for (int i = 0; i < count; i++) {
                x.sell(i, 1 + 37 * i % 99);
            }
            int sum = 0;
            for (int i = 0; i < count; i++) {
                sum += x.shareBySteps(i);
                Check.due("the same " + i + " of " + count, x.share(i), x.shareBySteps(i));
            }
            Check.due("sum of " + count, orders * x.excess(x.memberByExcess(0)), sum);
        }
    }
}
