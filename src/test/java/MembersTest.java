/** Promises 1 to 10. */
public final class MembersTest {
    public static void main(String[] args) {
        newObject();
        addMember();
        addMemberWrong();
        pardon();
        readers();
        standings();
        ranks();
        Check.end();
    }

    private static void newObject() {
        ThunderCartel x = new ThunderCartel();
        Check.due("1 members", 0, x.memberCount());
        Check.due("1 month", 0, x.month());
        Check.due("1 links", 0, x.linkCount());
        Check.due("1 undo", 0, x.undoCount());
        Check.due("1 seed", 0, x.setSeed(5));
        Check.due("1 threshold", 10, x.setThreshold(11));
        Check.due("1 rule", 0, x.setRule(1));
        Check.fails("1 no fault", Check.ELEMENT, x::faultPosition);
        Check.fails("1 no denial", Check.ELEMENT, x::denial);
        Check.fails("1 no snapshot", Check.STATE, x::restoreSnapshot);
    }

    private static void addMember() {
        ThunderCartel x = new ThunderCartel();
        Check.due("2 least", 0, x.addMember(1, 1));
        Check.due("2 greatest", 1, x.addMember(99, 20));
        for (int i = 2; i < 7; i++) {
            Check.due("2 index", i, x.addMember(10 + i, i));
        }
        Check.due("4 seven", 7, x.memberCount());
        Check.denied("2 eighth", x, 1, 7, () -> x.addMember(5, 5));
        Check.due("4 still seven", 7, x.memberCount());
        Check.fails("2 eighth with wrong capacity", Check.ARGUMENT, () -> x.addMember(0, 5));
        Check.fails("2 eighth with wrong votes", Check.ARGUMENT, () -> x.addMember(5, 21));
        Check.due("2 loyal", 'l', x.standing(6));
        Check.due("2 quota", 0, x.quota(6));
        Check.due("2 sales", 0, x.sales(6));
    }

    private static void addMemberWrong() {
        ThunderCartel x = new ThunderCartel();
        int[][] wrong = {{0, 1}, {100, 1}, {1, 0}, {1, 21}, {-1, 5}, {5, -1},
            {Integer.MIN_VALUE, 1}, {1, Integer.MAX_VALUE}};
        for (int[] pair : wrong) {
            Check.fails("2 " + pair[0] + " " + pair[1], Check.ARGUMENT, () -> x.addMember(pair[0], pair[1]));
        }
        Check.due("2 none joined", 0, x.memberCount());
        Check.fails("2 no denial", Check.ELEMENT, x::denial);
        // a member that joins after an undo starts anew
        x.addMember(50, 5);
        x.sell(0, 9);
        x.audit(1);
        x.undo();
        x.undo();
        x.undo();
        x.addMember(7, 2);
        Check.due("2 anew", "0:0/0/7v2", Check.line(x, 0));
    }

    private static void pardon() {
        ThunderCartel x = Check.cartel(40, 3, 40, 3, 40, 3);
        Check.denied("3 loyal", x, 5, 1, () -> x.pardon(1));
        Check.fails("3 below", Check.INDEX, () -> x.pardon(-1));
        Check.fails("3 above", Check.INDEX, () -> x.pardon(3));
        x.sell(0, 10);
        x.sell(2, 10);
        x.audit(3);
        x.audit(3);
        Check.due("3 warned", 2, x.pardon(0));
        Check.due("3 is loyal", 'l', x.standing(0));
        Check.fails("3 no warnings", Check.ELEMENT, () -> x.warnings(0));
        x.audit(3);
        Check.due("3 barred", 'b', x.standing(2));
        Check.due("3 barred one", 2, x.pardon(2));
        Check.due("3 it is loyal", 'l', x.standing(2));
        Check.fails("3 no months", Check.ELEMENT, () -> x.barredMonths(2));
        Check.due("3 it sells", 11, x.sell(2, 1));
        Check.due("3 keeps sales", 10, x.sales(0));
        Check.due("3 last warned", 3, x.pardon(0));
    }

    private static void readers() {
        ThunderCartel x = Check.cartel(40, 3, 99, 20);
        Check.due("5 first", 40, x.capacity(0));
        Check.due("5 second", 99, x.capacity(1));
        Check.due("6 first", 3, x.votes(0));
        Check.due("6 second", 20, x.votes(1));
        for (int member : new int[] {-1, 2, 7, Integer.MAX_VALUE, Integer.MIN_VALUE}) {
            Check.fails("5 " + member, Check.INDEX, () -> x.capacity(member));
            Check.fails("6 " + member, Check.INDEX, () -> x.votes(member));
            Check.fails("7 " + member, Check.INDEX, () -> x.standing(member));
            Check.fails("8 " + member, Check.INDEX, () -> x.warnings(member));
            Check.fails("9 " + member, Check.INDEX, () -> x.barredMonths(member));
        }
        x.sell(0, 1);
        Check.barAll(x);
        Check.due("6 barred", 3, x.votes(0));
        Check.due("5 barred", 40, x.capacity(0));
    }

    private static void standings() {
        ThunderCartel x = Check.cartel(40, 3);
        Check.due("7 loyal", 'l', x.standing(0));
        Check.fails("8 loyal", Check.ELEMENT, () -> x.warnings(0));
        Check.fails("9 loyal", Check.ELEMENT, () -> x.barredMonths(0));
        x.sell(0, 5);
        x.audit(1);
        Check.due("7 warned", 'w', x.standing(0));
        Check.due("8 one", 1, x.warnings(0));
        Check.fails("9 warned", Check.ELEMENT, () -> x.barredMonths(0));
        x.audit(1);
        Check.due("7 warned twice", 'w', x.standing(0));
        Check.due("8 two", 2, x.warnings(0));
        x.audit(1);
        Check.due("7 barred", 'b', x.standing(0));
        Check.due("9 two", 2, x.barredMonths(0));
        Check.fails("8 barred", Check.ELEMENT, () -> x.warnings(0));
        x.close();
        Check.due("9 fined keeps two", 2, x.barredMonths(0));
        x.close();
        Check.due("9 one", 1, x.barredMonths(0));
        x.close();
        Check.due("7 loyal again", 'l', x.standing(0));
    }

    private static void ranks() {
        ThunderCartel x = Check.cartel(10, 1, 30, 1, 30, 1, 30, 1);
        Check.due("10 by index", "0123", order(x));
        // quotas 2 6 6 6
        x.assign(20);
        x.sell(0, 2);
        x.sell(1, 7);
        x.sell(2, 5);
        x.sell(3, 7);
        // excesses 0 1 0 1, sales 2 7 5 7
        Check.due("10 by excess, sales and index", "1320", order(x));
        x.sell(0, 8);
        Check.due("10 greatest excess first", "0132", order(x));
        Check.fails("10 too great", Check.ELEMENT, () -> x.memberByExcess(4));
        Check.fails("10 below", Check.ELEMENT, () -> x.memberByExcess(-1));
        Check.fails("10 far", Check.ELEMENT, () -> x.memberByExcess(Integer.MAX_VALUE));
        Check.fails("10 empty", Check.ELEMENT, () -> new ThunderCartel().memberByExcess(0));
    }

    private static String order(ThunderCartel x) {
        StringBuilder order = new StringBuilder();
        for (int rank = 0; rank < x.memberCount(); rank++) {
            order.append(x.memberByExcess(rank));
        }
        return order.toString();
    }
}
