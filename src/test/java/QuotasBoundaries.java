/** Promises 11 to 18, sentence by sentence. */
final class QuotasBoundaries {
    private static final int LEAST = Integer.MIN_VALUE;
    private static final int MOST = Integer.MAX_VALUE;

    private QuotasBoundaries() {
    }

    static void run() {
        setRule();
        assign();
        assignRefused();
        sell();
        sellRefused();
        close();
        quotaBy();
        quotaByRefused();
        quota();
        sales();
        excess();
    }

    static String quotas(ThunderCartel x) {
        StringBuilder quotas = new StringBuilder();
        for (int i = 0; i < x.memberCount(); i++) {
            quotas.append(i == 0 ? "" : " ").append(x.quota(i));
        }
        return quotas.toString();
    }

    private static void setRule() {
        Doc.says(11, "Sets the rule of apportionment; quotas are not affected before a total is assigned.");
        ThunderCartel x = Check.cartel(40, 1, 30, 1, 30, 1, 7, 1);
        x.assign(100);
        x.setRule(1);
        Check.due("not yet", "37 28 28 7", quotas(x));
        x.assign(100);
        Check.due("then", "38 28 28 6", quotas(x));
        Doc.says(11, "- `rule`: the rule, 0 or 1");
        Check.due("from 0 to 1", 0, new ThunderCartel().setRule(1));
        Check.due("from 1 to 0", 1, x.setRule(0));
        Doc.says(11, "Throws `IllegalArgumentException` if there is no such rule");
        for (int rule : new int[] {-1, 2, LEAST, MOST}) {
            ThunderCartel y = Check.members(1);
            Check.refused("rule " + rule, Check.ARGUMENT, y, () -> y.setRule(rule));
            Check.fails("rule " + rule + " is not denied", Check.ELEMENT, y::denial);
        }
        Doc.says(11, "Throws `UnsupportedOperationException` if denied: 7");
        ThunderCartel z = new ThunderCartel();
        Check.denied("0 is the present one", z, 7, 0, () -> z.setRule(0));
        z.setRule(1);
        Check.denied("1 is the present one", z, 7, 1, () -> z.setRule(1));
    }

    private static void assign() {
        Doc.says(12, "- `total`: the total, 0 to 300");
        for (int rule = 0; rule <= 1; rule++) {
            ThunderCartel x = Check.cartel(99, 1, 99, 1, 99, 1, 99, 1, 99, 1, 99, 1, 99, 1);
            if (rule == 1) {
                x.setRule(1);
            }
            Check.due("greatest", 7, x.assign(300));
            Check.due("greatest by " + rule, "43 43 43 43 43 43 42", quotas(x));
            Check.due("least", 7, x.assign(0));
            Check.due("least by " + rule, "0 0 0 0 0 0 0", quotas(x));
            x.assign(1);
            Check.due("a unit by " + rule, "1 0 0 0 0 0 0", quotas(x));
        }
        Doc.says(12, "Returns the number of members whose quotas are different afterwards.");
        Check.due("without members", 0, new ThunderCartel().assign(300));
        ThunderCartel y = Check.members(7);
        Check.due("none: a new member has the quota 0", 0, y.assign(0));
        Check.due("one", 1, y.assign(1));
        Check.due("six", 6, y.assign(7));
        Check.due("all", 7, y.assign(14));
        Check.due("none: the same again", 0, y.assign(14));
    }

    private static void assignRefused() {
        Doc.says(12, "Throws `IllegalArgumentException` if the total is out of range");
        for (int total : new int[] {-1, 301, LEAST, MOST}) {
            ThunderCartel none = new ThunderCartel();
            Check.refused("without members " + total, Check.ARGUMENT, none, () -> none.assign(total));
            ThunderCartel x = Check.members(2);
            x.assign(9);
            Check.refused("total " + total, Check.ARGUMENT, x, () -> x.assign(total));
        }
    }

    private static void sell() {
        Doc.says(13, "- `units`: the number of units, 1 to 99");
        ThunderCartel x = Check.members(1);
        Check.due("least", 1, x.sell(0, 1));
        x.undo();
        Check.due("greatest", 99, x.sell(0, 99));
        Doc.says(13, "Throws `IndexOutOfBoundsException` if there is no such member");
        Check.noMember("member", (y, member) -> y.sell(member, 1));
        Check.noMember("member, before the units", (y, member) -> y.sell(member, 0));
    }

    private static void sellRefused() {
        Doc.says(13, "Throws `IllegalArgumentException` if the number of units is out of range");
        for (int units : new int[] {0, 100, -1, LEAST, MOST}) {
            ThunderCartel x = Check.cartel(9, 1);
            Check.refused("units " + units, Check.ARGUMENT, x, () -> x.sell(0, units));
            x.sell(0, 9);
            Check.refused("full, units " + units, Check.ARGUMENT, x, () -> x.sell(0, units));
            Check.barAll(x);
            Check.refused("barred, units " + units, Check.ARGUMENT, x, () -> x.sell(0, units));
            Check.fails("nothing was denied", Check.ELEMENT, x::denial);
        }
        Doc.says(13, "Throws `UnsupportedOperationException` if denied: 2, 3");
        ThunderCartel x = Check.cartel(9, 1);
        Check.denied("one above the capacity", x, 3, 9, () -> x.sell(0, 10));
        Check.due("the capacity", 9, x.sell(0, 9));
        Check.denied("full", x, 3, 0, () -> x.sell(0, 1));
        Check.barAll(x);
        Check.denied("barred, before full", x, 2, 2, () -> x.sell(0, 1));
        x.close();
        x.close();
        Check.denied("barred, before the capacity", x, 2, 1, () -> x.sell(0, 99));
        x.close();
        Check.due("loyal", 9, x.sell(0, 9));
    }

    private static void close() {
        Doc.says(14, "Returns the fines of this month in coins.");
        Check.due("without members", 0, new ThunderCartel().close());
        ThunderCartel x = Check.members(7);
        for (int i = 0; i < 7; i++) {
            x.sell(i, 99);
        }
        Check.due("greatest", 7 * 99 * 3, x.close());
        Check.due("of the next month alone", 0, x.close());
        ThunderCartel y = Check.cartel(9, 1);
        y.assign(5);
        y.sell(0, 4);
        Check.due("one below the quota", 0, y.close());
        y.sell(0, 5);
        Check.due("the quota", 0, y.close());
        y.sell(0, 6);
        Check.due("one above the quota", 3, y.close());
    }

    private static void quotaBy() {
        Doc.says(15, "Returns the quota that a member would get if a total was assigned now by a rule.");
        int[][] capacities = {{1}, {99, 1}, {10, 20, 30}, {40, 30, 30, 7}, {99, 99, 99, 99, 99, 99, 99},
            {1, 2, 3, 5, 8, 13, 21}};
        for (int[] row : capacities) {
            for (int total = 0; total <= 300; total++) {
                for (int rule = 0; rule <= 1; rule++) {
                    asAssigned(row, total, rule);
                }
            }
        }
        Doc.says(15, "- `total`: the total, 0 to 300");
        ThunderCartel x = Check.cartel(1, 1, 99, 1);
        Check.due("least by 0", 0, x.quotaBy(1, 0, 0));
        Check.due("least by 1", 0, x.quotaBy(1, 0, 1));
        Check.due("greatest by 0", 297, x.quotaBy(1, 300, 0));
        Check.due("greatest by 1", 297, x.quotaBy(1, 300, 1));
        Check.due("greatest quota by 0", 300, Check.members(1).quotaBy(0, 300, 0));
        Check.due("greatest quota by 1", 300, Check.members(1).quotaBy(0, 300, 1));
        Doc.says(15, "- `rule`: the rule, 0 or 1");
        ThunderCartel y = Check.cartel(40, 1, 30, 1, 30, 1, 7, 1);
        Check.due("rule 0", 37, y.quotaBy(0, 100, 0));
        Check.due("rule 1", 38, y.quotaBy(0, 100, 1));
        Check.due("the rule stays", 0, y.setRule(1));
        Check.due("rule 0 while it is 1", 37, y.quotaBy(0, 100, 0));
    }

    private static void asAssigned(int[] capacities, int total, int rule) {
        ThunderCartel x = new ThunderCartel();
        for (int capacity : capacities) {
            x.addMember(capacity, 1);
        }
        if (rule == 1) {
            x.setRule(1);
        }
        StringBuilder would = new StringBuilder();
        for (int i = 0; i < capacities.length; i++) {
            would.append(i == 0 ? "" : " ").append(x.quotaBy(i, total, rule));
        }
        x.assign(total);
        String what = capacities.length + " members, " + total + " by " + rule;
        Check.due(what, quotas(x), would.toString());
        int sum = 0;
        for (int i = 0; i < capacities.length; i++) {
            sum += x.quota(i);
        }
        Check.due("all of it: " + what, total, sum);
    }

    private static void quotaByRefused() {
        Doc.says(15, "Throws `IndexOutOfBoundsException` if there is no such member");
        Check.noMember("member", (x, member) -> x.quotaBy(member, 5, 0));
        Check.noMember("member, before the total", (x, member) -> x.quotaBy(member, 301, 0));
        Check.noMember("member, before the rule", (x, member) -> x.quotaBy(member, 5, 2));
        Doc.says(15, "Throws `IllegalArgumentException` if the total is out of range, or there is no such rule");
        for (int rule = 0; rule <= 1; rule++) {
            for (int total : new int[] {-1, 301, LEAST, MOST}) {
                ThunderCartel x = Check.members(2);
                int its = rule;
                Check.refused("total " + total, Check.ARGUMENT, x, () -> x.quotaBy(1, total, its));
            }
        }
        for (int rule : new int[] {-1, 2, LEAST, MOST}) {
            ThunderCartel x = Check.members(2);
            Check.refused("rule " + rule, Check.ARGUMENT, x, () -> x.quotaBy(1, 5, rule));
            Check.refused("rule and total " + rule, Check.ARGUMENT, x, () -> x.quotaBy(1, 301, rule));
        }
    }

    private static void quota() {
        Doc.says(16, "Returns the quota.");
        ThunderCartel x = Check.members(1);
        Check.due("initially", 0, x.quota(0));
        x.assign(300);
        Check.due("greatest", 300, x.quota(0));
        x.assign(0);
        Check.due("least", 0, x.quota(0));
        Doc.says(16, "Throws `IndexOutOfBoundsException` if there is no such member");
        Check.noMember("member", ThunderCartel::quota);
    }

    private static void sales() {
        Doc.says(17, "Returns the sales of a member in the present month.");
        ThunderCartel x = Check.members(7);
        Check.due("initially", 0, x.sales(6));
        x.sell(6, 99);
        Check.due("greatest", 99, x.sales(6));
        x.close();
        Check.due("of the next month", 0, x.sales(6));
        Doc.says(17, "Throws `IndexOutOfBoundsException` if there is no such member");
        Check.noMember("member", ThunderCartel::sales);
    }

    private static void excess() {
        Doc.says(18, "Returns the excess of a member.");
        ThunderCartel x = Check.members(1);
        x.assign(5);
        Check.due("no sales", 0, x.excess(0));
        x.sell(0, 4);
        Check.due("one below the quota", 0, x.excess(0));
        x.sell(0, 1);
        Check.due("the quota", 0, x.excess(0));
        x.sell(0, 1);
        Check.due("one above the quota", 1, x.excess(0));
        x.assign(0);
        x.sell(0, 93);
        Check.due("greatest", 99, x.excess(0));
        Doc.says(18, "Throws `IndexOutOfBoundsException` if there is no such member");
        Check.noMember("member", ThunderCartel::excess);
    }
}
