/** Promises 1 to 10, sentence by sentence. */
final class MembersBoundaries {
    private static final int LEAST = Integer.MIN_VALUE;
    private static final int MOST = Integer.MAX_VALUE;

    private MembersBoundaries() {
    }

    static void run() {
        newObject();
        addMember();
        addMemberRefused();
        pardon();
        memberCount();
        capacityAndVotes();
        standing();
        warnings();
        barredMonths();
        ranks();
        ranksRefused();
    }

    /** One member with 9 units of excess. */
    private static ThunderCartel seller() {
        ThunderCartel x = Check.cartel(9, 3);
        x.sell(0, 9);
        return x;
    }

    private static void newObject() {
        Doc.says(1, "Creates a cartel without members, in month 0.");
        ThunderCartel x = new ThunderCartel();
        Check.due("members", 0, x.memberCount());
        Check.due("month", 0, x.month());
        Check.fails("no member 0", Check.INDEX, () -> x.capacity(0));
        Check.due("nothing to undo", 0, x.undoCount());
        x.close();
        x.addMember(1, 1);
        ThunderCartel other = new ThunderCartel();
        Check.due("another has no members", 0, other.memberCount());
        Check.due("another is in month", 0, other.month());
    }

    private static void addMember() {
        Doc.says(2, "- `capacity`: the capacity, 1 to 99");
        ThunderCartel x = new ThunderCartel();
        Check.due("least", 0, x.addMember(1, 5));
        Check.due("greatest", 1, x.addMember(99, 5));
        Check.due("least is kept", 1, x.capacity(0));
        Check.due("greatest is kept", 99, x.capacity(1));
        Doc.says(2, "- `votes`: the number of votes, 1 to 20");
        Check.due("least", 2, x.addMember(5, 1));
        Check.due("greatest", 3, x.addMember(5, 20));
        Check.due("least is kept", 1, x.votes(2));
        Check.due("greatest is kept", 20, x.votes(3));
        Doc.says(2, "Returns the index of the member.");
        ThunderCartel y = new ThunderCartel();
        for (int i = 0; i < 7; i++) {
            Check.due("from the first to the last", i, y.addMember(10 + i, 1 + i));
        }
    }

    private static void addMemberRefused() {
        Doc.says(2, "Throws `IllegalArgumentException` if the capacity or the number of votes is out of range");
        for (int capacity : new int[] {0, 100, -1, LEAST, MOST}) {
            ThunderCartel x = Check.members(1);
            Check.refused("capacity " + capacity, Check.ARGUMENT, x, () -> x.addMember(capacity, 1));
        }
        for (int votes : new int[] {0, 21, -1, LEAST, MOST}) {
            ThunderCartel x = Check.members(1);
            Check.refused("votes " + votes, Check.ARGUMENT, x, () -> x.addMember(1, votes));
        }
        ThunderCartel both = new ThunderCartel();
        Check.refused("both", Check.ARGUMENT, both, () -> both.addMember(100, 21));
        ThunderCartel full = Check.members(7);
        Check.refused("capacity, before the denial", Check.ARGUMENT, full, () -> full.addMember(100, 1));
        Check.refused("votes, before the denial", Check.ARGUMENT, full, () -> full.addMember(1, 0));
        Check.fails("nothing was denied", Check.ELEMENT, full::denial);
        Doc.says(2, "Throws `UnsupportedOperationException` if denied: 1 (7 members)");
        ThunderCartel x = Check.members(6);
        Check.due("the seventh", 6, x.addMember(1, 1));
        Check.denied("the eighth", x, 1, 7, () -> x.addMember(1, 1));
        x.undo();
        Check.due("there is room again", 6, x.addMember(2, 2));
    }

    private static void pardon() {
        Doc.says(3, "Makes a warned or barred member loyal.");
        for (int audits = 1; audits <= 3; audits++) {
            ThunderCartel x = seller();
            for (int i = 0; i < audits; i++) {
                x.audit(1);
            }
            Check.due("it is not", false, x.standing(0) == 'l');
            x.pardon(0);
            Check.due("after " + audits + " warnings", "l", Check.standing(x, 0));
            x.audit(1);
            Check.due("warned anew after " + audits, "w1", Check.standing(x, 0));
        }
        Doc.says(3, "Returns the number of loyal members afterwards.");
        ThunderCartel all = Check.members(7);
        for (int i = 0; i < 7; i++) {
            all.sell(i, 1);
        }
        Check.barAll(all);
        for (int i = 6; i >= 0; i--) {
            Check.due("one to seven", 7 - i, all.pardon(i));
        }
        Doc.says(3, "Throws `IndexOutOfBoundsException` if there is no such member");
        Check.noMember("member", ThunderCartel::pardon);
        Doc.says(3, "Throws `UnsupportedOperationException` if denied: 5");
        ThunderCartel x = Check.members(7);
        Check.denied("the first", x, 5, 0, () -> x.pardon(0));
        Check.denied("the last", x, 5, 6, () -> x.pardon(6));
        ThunderCartel twice = seller();
        twice.audit(1);
        twice.pardon(0);
        Check.denied("a second time", twice, 5, 0, () -> twice.pardon(0));
    }

    private static void memberCount() {
        Doc.says(4, "Returns the number of members.");
        for (int count = 0; count <= 7; count++) {
            Check.due("none to seven", count, Check.members(count).memberCount());
        }
        ThunderCartel barred = seller();
        Check.barAll(barred);
        Check.due("barred ones too", 1, barred.memberCount());
    }

    private static void capacityAndVotes() {
        Doc.says(5, "Throws `IndexOutOfBoundsException` if there is no such member");
        Check.noMember("member", ThunderCartel::capacity);
        Doc.says(6, "Returns the votes of a member, barred or not.");
        ThunderCartel x = seller();
        Check.due("not barred", 3, x.votes(0));
        Check.barAll(x);
        Check.due("barred", 3, x.votes(0));
        Doc.says(6, "Throws `IndexOutOfBoundsException` if there is no such member");
        Check.noMember("member", ThunderCartel::votes);
    }

    private static void standing() {
        Doc.says(7, "Returns 'l' if it is loyal, 'w' if it is warned, 'b' if it is barred.");
        ThunderCartel x = seller();
        for (char sign : new char[] {'l', 'w', 'w', 'b', 'b'}) {
            Check.due("audit by audit", sign, x.standing(0));
            x.audit(1);
        }
        // the first closing fines it, the next two take a month each
        for (char sign : new char[] {'b', 'b', 'b', 'l'}) {
            Check.due("month by month", sign, x.standing(0));
            x.close();
        }
        Doc.says(7, "Throws `IndexOutOfBoundsException` if there is no such member");
        Check.noMember("member", ThunderCartel::standing);
    }

    private static void warnings() {
        Doc.says(8, "Throws `IndexOutOfBoundsException` if there is no such member");
        Check.noMember("member", ThunderCartel::warnings);
        Doc.says(8, "Throws `NoSuchElementException` if it is not warned");
        ThunderCartel x = seller();
        Check.refused("loyal", Check.ELEMENT, x, () -> x.warnings(0));
        x.audit(1);
        Check.due("least", 1, x.warnings(0));
        x.audit(1);
        Check.due("greatest", 2, x.warnings(0));
        x.audit(1);
        Check.refused("barred", Check.ELEMENT, x, () -> x.warnings(0));
    }

    private static void barredMonths() {
        Doc.says(9, "Throws `IndexOutOfBoundsException` if there is no such member");
        Check.noMember("member", ThunderCartel::barredMonths);
        Doc.says(9, "Throws `NoSuchElementException` if it is not barred");
        ThunderCartel x = seller();
        Check.refused("loyal", Check.ELEMENT, x, () -> x.barredMonths(0));
        x.audit(1);
        Check.refused("warned", Check.ELEMENT, x, () -> x.barredMonths(0));
        x.audit(1);
        Check.refused("warned twice", Check.ELEMENT, x, () -> x.barredMonths(0));
        x.audit(1);
        Check.due("greatest", 2, x.barredMonths(0));
        x.close();
        x.close();
        Check.due("least", 1, x.barredMonths(0));
        x.close();
        Check.refused("loyal again", Check.ELEMENT, x, () -> x.barredMonths(0));
    }

    private static String order(ThunderCartel x) {
        StringBuilder order = new StringBuilder();
        for (int rank = 0; rank < x.memberCount(); rank++) {
            order.append(x.memberByExcess(rank));
        }
        return order.toString();
    }

    private static void ranks() {
        Doc.says(10, "Returns the member at a rank by excess, in descending order; for equal excesses, the one with "
            + "the greater sales comes first, then the one with the lower index.");
        // quotas 1 19 19
        ThunderCartel x = Check.cartel(5, 1, 95, 1, 95, 1);
        x.assign(39);
        Check.due("all are equal", "012", order(x));
        x.sell(2, 19);
        Check.due("greater sales without an excess", "201", order(x));
        x.sell(1, 20);
        x.sell(0, 3);
        // excesses 2 1 0, sales 3 20 19
        Check.due("the excess before the sales", "012", order(x));
        x.undo();
        x.sell(0, 2);
        // excesses 1 1 0, sales 2 20 19
        Check.due("the sales before the index", "102", order(x));
        x.sell(2, 1);
        // excesses 1 1 1, sales 2 20 20
        Check.due("the lower index last", "120", order(x));
        ThunderCartel quotas = Check.cartel(50, 1, 25, 1, 25, 1);
        // quotas 20 10 10
        quotas.assign(40);
        quotas.sell(0, 3);
        quotas.sell(1, 4);
        quotas.sell(2, 5);
        Check.due("greater sales, whatever the quotas are", "210", order(quotas));
        ThunderCartel barred = Check.cartel(9, 1, 9, 1, 9, 1);
        barred.sell(1, 9);
        barred.sell(2, 8);
        Check.barAll(barred);
        barred.sell(0, 7);
        Check.due("barred or not", "120", order(barred));
        ThunderCartel seven = Check.members(7);
        for (int i = 0; i < 7; i++) {
            seven.sell(i, 1 + 5 * i % 7);
        }
        // sales 1 6 4 2 7 5 3
        Check.due("seven", "4152630", order(seven));
    }

    private static void ranksRefused() {
        Doc.says(10, "- `rank`: the rank, from 0");
        Check.due("the first of one", 0, Check.members(1).memberByExcess(0));
        Check.due("the first of seven", 0, Check.members(7).memberByExcess(0));
        Check.due("the last of seven", 6, Check.members(7).memberByExcess(6));
        Doc.says(10, "Throws `NoSuchElementException` if there is no such rank");
        for (int count : new int[] {0, 1, 7}) {
            for (int rank : new int[] {-1, count, 7, MOST, LEAST}) {
                ThunderCartel x = Check.members(count);
                Check.refused("rank " + rank + " of " + count, Check.ELEMENT, x, () -> x.memberByExcess(rank));
            }
        }
    }
}
