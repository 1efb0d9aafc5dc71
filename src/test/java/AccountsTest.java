/** Promises 36 to 42. */
public final class AccountsTest {
    public static void main(String[] args) {
        totals();
        mean();
        finedShare();
        Check.end();
    }

    private static void totals(String what, ThunderCartel x, int month, int sold, int within, int fined) {
        Check.due("36 " + what, month, x.month());
        Check.due("37 " + what, sold, x.soldTotal());
        Check.due("38 " + what, within, x.withinTotal());
        Check.due("39 " + what, fined, x.finedTotal());
        Check.due("40 " + what, 3 * fined, x.fines());
    }

    private static void totals() {
        ThunderCartel x = Check.cartel(40, 1, 30, 1);
        totals("new", x, 0, 0, 0, 0);
        x.assign(14);
        x.sell(0, 20);
        x.sell(1, 5);
        totals("not closed", x, 0, 0, 0, 0);
        // quotas 8 6, excesses 12 0
        x.close();
        totals("first month", x, 1, 25, 13, 12);
        x.close();
        totals("month without sales", x, 2, 25, 13, 12);
        x.sell(1, 7);
        x.close();
        totals("third month", x, 3, 32, 19, 13);
        x.undo();
        totals("undone", x, 2, 25, 13, 12);
    }

    private static void mean() {
        Check.fails("41 no members", Check.ARITHMETIC, () -> new ThunderCartel().meanSales());
        ThunderCartel x = Check.cartel(40, 1, 30, 1, 30, 1);
        Check.due("41 nothing", 0.0, x.meanSales());
        x.sell(0, 20);
        x.sell(1, 5);
        Check.due("41 mean", 25.0 / 3.0, x.meanSales());
        x.close();
        Check.due("41 next month", 0.0, x.meanSales());
    }

    private static void finedShare() {
        ThunderCartel x = Check.cartel(40, 1, 30, 1);
        Check.fails("42 none sold", Check.ARITHMETIC, x::finedShare);
        x.assign(14);
        x.sell(0, 20);
        Check.fails("42 not closed", Check.ARITHMETIC, x::finedShare);
        x.close();
        Check.due("42 share", 12.0f / 20.0f, x.finedShare());
        x.sell(1, 1);
        x.close();
        Check.due("42 another", 12.0f / 21.0f, x.finedShare());
        ThunderCartel y = Check.cartel(40, 1);
        y.assign(5);
        y.sell(0, 5);
        y.close();
        Check.due("42 none fined", 0.0f, y.finedShare());
    }
}
