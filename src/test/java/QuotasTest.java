/** Promises 11 to 18. */
public final class QuotasTest {
    public static void main(String[] args) {
        setRule();
        assignByRemainders();
        assignOneByOne();
        assignEdges();
        assignWithBarred();
        sell();
        close();
        closeOfStandings();
        quotaBy();
        readers();
        Check.end();
    }

    private static String quotas(ThunderCartel x) {
        StringBuilder quotas = new StringBuilder();
        for (int i = 0; i < x.memberCount(); i++) {
            quotas.append(i == 0 ? "" : " ").append(x.quota(i));
        }
        return quotas.toString();
    }

    private static void setRule() {
        ThunderCartel x = Check.cartel(40, 1, 30, 1, 30, 1, 7, 1);
        Check.denied("11 present 0", x, 7, 0, () -> x.setRule(0));
        x.assign(100);
        Check.due("11 from 0", 0, x.setRule(1));
        Check.due("11 quotas stay", "37 28 28 7", quotas(x));
        Check.denied("11 present 1", x, 7, 1, () -> x.setRule(1));
        Check.fails("11 no rule 2", Check.ARGUMENT, () -> x.setRule(2));
        Check.fails("11 no rule -1", Check.ARGUMENT, () -> x.setRule(-1));
        x.assign(100);
        Check.due("11 other quotas", "38 28 28 6", quotas(x));
        Check.due("11 from 1", 1, x.setRule(0));
    }

    private static void assignByRemainders() {
        ThunderCartel x = Check.cartel(40, 1, 30, 1, 30, 1, 7, 1);
        Check.due("12 all differ", 4, x.assign(100));
        Check.due("12 remainders", "37 28 28 7", quotas(x));
        Check.due("12 none differs", 0, x.assign(100));
        // 99 units: 3960 / 107 = 37 r 1, 2970 / 107 = 27 r 81 twice, 693 / 107 = 6 r 51
        Check.due("12 one less", 1, x.assign(99));
        Check.due("12 again", "37 28 28 6", quotas(x));
        ThunderCartel y = Check.cartel(10, 1, 10, 1, 10, 1);
        y.assign(4);
        Check.due("12 equal remainders", "2 1 1", quotas(y));
        y.assign(5);
        Check.due("12 equal remainders, two left", "2 2 1", quotas(y));
        y.assign(6);
        Check.due("12 nothing left", "2 2 2", quotas(y));
        // a floor is rounded down: 300 * 1 / 100 = 3, and above a capacity
        ThunderCartel z = Check.cartel(1, 1, 99, 1);
        z.assign(300);
        Check.due("12 above the capacity", "3 297", quotas(z));
    }

    private static void assignOneByOne() {
        ThunderCartel x = Check.cartel(40, 1, 30, 1, 30, 1, 7, 1);
        x.setRule(1);
        x.assign(1);
        Check.due("12 first unit", "1 0 0 0", quotas(x));
        x.assign(2);
        Check.due("12 second unit", "1 1 0 0", quotas(x));
        x.assign(3);
        Check.due("12 third unit", "1 1 1 0", quotas(x));
        x.assign(25);
        Check.due("12 twenty-five", "10 7 7 1", quotas(x));
        ThunderCartel y = Check.cartel(10, 1, 20, 1, 30, 1);
        y.setRule(1);
        // fractions: 30 20 15 10 10 10 7.5 ..
        y.assign(4);
        Check.due("12 equal fractions", "1 1 2", quotas(y));
        y.assign(5);
        Check.due("12 equal fractions, next", "1 2 2", quotas(y));
        y.assign(300);
        Check.due("12 three hundred", "50 100 150", quotas(y));
    }

    private static void assignEdges() {
        ThunderCartel x = new ThunderCartel();
        Check.due("12 without members", 0, x.assign(300));
        x.addMember(9, 1);
        Check.due("12 nothing", 0, x.assign(0));
        Check.due("12 all", 1, x.assign(300));
        Check.due("12 one member", 300, x.quota(0));
        Check.due("12 back", 1, x.assign(0));
        ThunderCartel least = Check.cartel(1, 1);
        Check.due("12 least capacity", 1, least.assign(7));
        Check.due("12 all to the least capacity", 7, least.quota(0));
        Check.due("15 all to the least capacity", 300, least.quotaBy(0, 300, 1));
        for (int total : new int[] {-1, 301, Integer.MIN_VALUE, Integer.MAX_VALUE}) {
            Check.fails("12 " + total, Check.ARGUMENT, () -> x.assign(total));
        }
    }

    private static void assignWithBarred() {
        ThunderCartel x = Check.cartel(20, 1, 20, 1, 20, 1);
        x.assign(3);
        x.sell(1, 9);
        Check.barAll(x);
        Check.due("12 keeps quota", "1 1 1", quotas(x));
        Check.due("12 barred gets none", 3, x.assign(4));
        Check.due("12 for two", "2 0 2", quotas(x));
        x.setRule(1);
        Check.due("12 by rule 1", 1, x.assign(5));
        Check.due("12 for two by rule 1", "3 0 2", quotas(x));
        x.sell(0, 20);
        x.sell(2, 20);
        Check.barAll(x);
        Check.due("12 none active", 2, x.assign(5));
        Check.due("12 all 0", "0 0 0", quotas(x));
        x.setRule(0);
        Check.due("12 none active by rule 0", 0, x.assign(5));
        // 10, 30 and 30 divided by 7 leave 3, 2 and 2: the first gets the unit that is left
        ThunderCartel y = Check.cartel(1, 1, 3, 1, 3, 1);
        y.assign(10);
        Check.due("12 before the bar", "2 4 4", quotas(y));
        y.undo();
        y.sell(0, 1);
        Check.barAll(y);
        y.assign(9);
        Check.due("12 the barred one has no remainder", "0 5 4", quotas(y));
        y.assign(300);
        Check.due("12 nor a part of the sum", "0 150 150", quotas(y));
    }

    private static void sell() {
        ThunderCartel x = Check.cartel(40, 1, 99, 1);
        Check.due("13 some", 30, x.sell(0, 30));
        Check.due("13 to the capacity", 40, x.sell(0, 10));
        Check.denied("13 over", x, 3, 0, () -> x.sell(0, 1));
        x.undo();
        Check.denied("13 over by one", x, 3, 10, () -> x.sell(0, 11));
        Check.denied("13 far over", x, 3, 10, () -> x.sell(0, 99));
        Check.due("13 sales stay", 30, x.sales(0));
        Check.due("13 most at once", 99, x.sell(1, 99));
        Check.denied("13 nothing is left", x, 3, 0, () -> x.sell(1, 99));
    }

    private static void close() {
        ThunderCartel x = Check.cartel(40, 1, 30, 1, 20, 1);
        Check.due("14 nothing", 0, x.close());
        Check.due("14 month", 1, x.month());
        x.assign(9);
        x.sell(0, 10);
        x.sell(1, 5);
        x.sell(2, 2);
        // quotas 4 3 2, excesses 6 2 0
        Check.due("14 fines", 24, x.close());
        Check.due("14 sales", 0, x.sales(0) + x.sales(1) + x.sales(2));
        Check.due("14 quotas stay", "4 3 2", quotas(x));
        Check.due("14 loyal", 'l', x.standing(0));
        Check.due("14 once", 0, x.close());
        Check.due("14 months", 3, x.month());
        Check.due("14 without members", 0, new ThunderCartel().close());
    }

    private static void closeOfStandings() {
        ThunderCartel x = Check.cartel(40, 1, 30, 1);
        x.sell(0, 10);
        x.audit(2);
        x.audit(2);
        x.close();
        Check.due("14 with an excess two warnings stay", 2, x.warnings(0));
        x.close();
        Check.due("14 one less", 1, x.warnings(0));
        x.close();
        Check.due("14 loyal", 'l', x.standing(0));
        x.close();
        Check.due("14 still loyal", 'l', x.standing(0));
        x.sell(0, 10);
        Check.barAll(x);
        Check.due("14 barred with sales is fined", 30, x.close());
        Check.due("14 barred with an excess", 2, x.barredMonths(0));
        x.close();
        Check.due("14 a month less", 1, x.barredMonths(0));
        x.close();
        Check.due("14 loyal after the bar", 'l', x.standing(0));
        Check.due("14 sells", 1, x.sell(0, 1));
        // barred while an assigned total then takes its quota away
        ThunderCartel y = Check.cartel(40, 1, 30, 1);
        y.assign(7);
        y.sell(0, 6);
        Check.barAll(y);
        y.assign(7);
        Check.due("14 quota 0 makes all an excess", 18, y.close());
    }

    private static void quotaBy() {
        ThunderCartel x = Check.cartel(40, 1, 30, 1, 30, 1, 7, 1);
        Check.due("15 rule 0", 7, x.quotaBy(3, 100, 0));
        Check.due("15 rule 1", 6, x.quotaBy(3, 100, 1));
        Check.due("15 first", 38, x.quotaBy(0, 100, 1));
        Check.due("15 nothing", 0, x.quotaBy(0, 0, 0) + x.quotaBy(0, 0, 1));
        Check.due("15 quotas stay", "0 0 0 0", quotas(x));
        Check.due("15 not a change", 4, x.undoCount());
        Check.fails("15 no member", Check.INDEX, () -> x.quotaBy(4, 100, 0));
        Check.fails("15 no member first", Check.INDEX, () -> x.quotaBy(-1, 301, 2));
        Check.fails("15 total", Check.ARGUMENT, () -> x.quotaBy(0, 301, 0));
        Check.fails("15 total below", Check.ARGUMENT, () -> x.quotaBy(0, -1, 0));
        Check.fails("15 rule", Check.ARGUMENT, () -> x.quotaBy(0, 10, 2));
        Check.fails("15 rule below", Check.ARGUMENT, () -> x.quotaBy(0, 10, -1));
        x.sell(1, 5);
        Check.barAll(x);
        Check.due("15 barred", 0, x.quotaBy(1, 100, 0) + x.quotaBy(1, 100, 1));
        Check.due("15 among the others", 52, x.quotaBy(0, 100, 0));
        Check.due("15 most", 300, x.quotaBy(0, 300, 1) + x.quotaBy(2, 300, 1) + x.quotaBy(3, 300, 1));
    }

    private static void readers() {
        ThunderCartel x = Check.cartel(40, 1, 30, 1);
        x.assign(7);
        x.sell(0, 3);
        x.sell(1, 30);
        Check.due("16 quota", 4, x.quota(0));
        Check.due("16 other quota", 3, x.quota(1));
        Check.due("17 sales", 3, x.sales(0));
        Check.due("17 other sales", 30, x.sales(1));
        Check.due("18 no excess", 0, x.excess(0));
        Check.due("18 excess", 27, x.excess(1));
        for (int member : new int[] {-1, 2, Integer.MAX_VALUE, Integer.MIN_VALUE}) {
            Check.fails("16 " + member, Check.INDEX, () -> x.quota(member));
            Check.fails("17 " + member, Check.INDEX, () -> x.sales(member));
            Check.fails("18 " + member, Check.INDEX, () -> x.excess(member));
        }
        Check.fails("13 no member", Check.INDEX, () -> x.sell(2, 0));
        Check.fails("13 no member below", Check.INDEX, () -> x.sell(-1, 1));
        Check.fails("13 no units", Check.ARGUMENT, () -> x.sell(0, 0));
        Check.fails("13 too many units", Check.ARGUMENT, () -> x.sell(0, 100));
        Check.fails("13 units at the end", Check.ARGUMENT, () -> x.sell(0, Integer.MAX_VALUE));
        Check.barAll(x);
        Check.fails("13 barred, wrong units", Check.ARGUMENT, () -> x.sell(1, 100));
        Check.denied("13 barred before over", x, 2, 2, () -> x.sell(1, 99));
        x.close();
        x.close();
        Check.denied("13 barred for one month", x, 2, 1, () -> x.sell(1, 1));
    }
}
