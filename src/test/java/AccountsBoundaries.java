/** Promises 36 to 42, sentence by sentence. */
final class AccountsBoundaries {
    private AccountsBoundaries() {
    }

    static void run() {
        month();
        totals();
        mean();
        finedShare();
    }

    private static void month() {
        Doc.says(36, "Returns the number of months that have been closed.");
        ThunderCartel x = new ThunderCartel();
        Check.due("none", 0, x.month());
        x.close();
        Check.due("one", 1, x.month());
        x.undo();
        Check.due("none again", 0, x.month());
    }

    private static void totals(String what, ThunderCartel x, int sold, int within, int fined) {
        Check.due("37 and " + what, sold, x.soldTotal());
        Check.due("38 and " + what, within, x.withinTotal());
        Check.due("39 and " + what, fined, x.finedTotal());
        Check.due("40 and " + what, 3 * fined, x.fines());
    }

    private static void totals() {
        Doc.says(37, "Returns the units that were sold in all closed months.");
        ThunderCartel x = Check.cartel(99, 1, 99, 1);
        totals("none", x, 0, 0, 0);
        x.assign(10);
        x.sell(0, 5);
        x.sell(1, 7);
        totals("in the present month", x, 0, 0, 0);
        x.close();
        totals("one month", x, 12, 10, 2);
        Doc.says(38, "Returns the units that were within the quotas in all closed months.");
        x.sell(0, 4);
        x.close();
        totals("one below the quota", x, 16, 14, 2);
        x.sell(0, 5);
        x.close();
        totals("the quota", x, 21, 19, 2);
        Doc.says(39, "Returns the units that were fined in all closed months.");
        x.sell(1, 6);
        x.close();
        totals("one above the quota", x, 27, 24, 3);
        Doc.says(40, "Returns the fines of all closed months in coins.");
        x.undo();
        totals("the last closing is undone", x, 21, 19, 2);
        Doc.says(38, "Returns the number of units; together with those that were fined, they are always soldTotal.");
        greatestTotals();
    }

    /** As much as 512 calls can sell: seven members and 62 months, each with seven sales. */
    private static void greatestTotals() {
        ThunderCartel x = Check.members(7);
        x.assign(21);
        for (int month = 0; month < 62; month++) {
            for (int i = 0; i < 7; i++) {
                x.sell(i, 99);
            }
            x.close();
        }
        totals("the greatest", x, 62 * 693, 62 * 21, 62 * 672);
    }

    private static void mean() {
        Doc.says(41, "Returns the mean sales of the members in the present month: the sum converted to double, "
            + "divided by their number converted to double.");
        ThunderCartel x = Check.members(7);
        Check.due("least", 0.0, x.meanSales());
        x.sell(6, 1);
        Check.due("not rounded", 1.0 / 7.0, x.meanSales());
        x.sell(6, 98);
        for (int i = 0; i < 6; i++) {
            x.sell(i, 99);
        }
        Check.due("greatest", 99.0, x.meanSales());
        Check.barAll(x);
        Check.due("barred ones have sales too", 99.0, x.meanSales());
        x.close();
        Check.due("the next month", 0.0, x.meanSales());
        Doc.says(41, "Throws `ArithmeticException` if there are no members");
        ThunderCartel none = new ThunderCartel();
        Check.refused("no members", Check.ARITHMETIC, none, none::meanSales);
        none.addMember(5, 1);
        Check.due("one without sales", 0.0, none.meanSales());
        none.undo();
        Check.refused("no members again", Check.ARITHMETIC, none, none::meanSales);
    }

    private static void finedShare() {
        Doc.says(42, "Returns the share of the units sold in all closed months that were fined, both numbers "
            + "converted to float.");
        ThunderCartel x = Check.members(2);
        x.sell(0, 1);
        x.close();
        Check.due("greatest", 1.0f, x.finedShare());
        x.assign(10);
        x.sell(0, 2);
        x.close();
        Check.due("not rounded to the number of units", 1.0f / 3.0f, x.finedShare());
        ThunderCartel y = Check.members(1);
        y.assign(9);
        y.sell(0, 9);
        y.close();
        Check.due("least", 0.0f, y.finedShare());
        Doc.says(42, "Throws `ArithmeticException` if none were sold");
        ThunderCartel none = Check.members(1);
        Check.refused("no month is closed", Check.ARITHMETIC, none, none::finedShare);
        none.close();
        Check.refused("a month without sales", Check.ARITHMETIC, none, none::finedShare);
        none.sell(0, 9);
        Check.refused("sold in the present month alone", Check.ARITHMETIC, none, none::finedShare);
        none.close();
        Check.due("sold", 1.0f, none.finedShare());
        none.undo();
        Check.refused("the closing is undone", Check.ARITHMETIC, none, none::finedShare);
    }
}
