/** Promises 19 to 27, sentence by sentence. */
final class AuditsBoundaries {
    private static final int LEAST = Integer.MIN_VALUE;
    private static final int MOST = Integer.MAX_VALUE;

    private AuditsBoundaries() {
    }

    static void run() {
        audit();
        auditRefused();
        setSeed();
        drawnMember();
        drawnMemberRefused();
        link();
        linkRefused();
        unlink();
        linkCount();
        areLinked();
        fewestWatchers();
    }

    /** Seven members, each with 1 unit of excess. */
    private static ThunderCartel sellers() {
        ThunderCartel x = Check.members(7);
        for (int i = 0; i < 7; i++) {
            x.sell(i, 1);
        }
        return x;
    }

    /** Links so many pairs, the pairs with the lowest indices first. */
    private static ThunderCartel linked(int links) {
        ThunderCartel x = Check.members(7);
        for (int i = 0; i < 7; i++) {
            for (int j = 0; j < i && x.linkCount() < links; j++) {
                x.link(i, j);
            }
        }
        return x;
    }

    private static void audit() {
        Doc.says(19, "- `count`: the number of members that are drawn, 1 to 7");
        // the seed 0 becomes 89, so member 5 of seven is drawn
        ThunderCartel x = sellers();
        Check.due("least", 1, x.audit(1));
        Check.due("the one that is drawn", "w1", Check.standing(x, 5));
        Check.due("the next one", "l", Check.standing(x, 6));
        Check.due("greatest", 7, sellers().audit(7));
        for (int count = 1; count <= 7; count++) {
            Check.due("each count", count, sellers().audit(count));
        }
        Doc.says(19, "Returns the number of members that are warned or barred by this audit.");
        Check.due("none has an excess", 0, Check.members(7).audit(7));
        ThunderCartel y = sellers();
        Check.due("all are warned", 7, y.audit(7));
        Check.due("all are warned again", 7, y.audit(7));
        Check.due("all become barred", 7, y.audit(7));
        Check.due("all are barred already", 0, y.audit(7));
        y.pardon(6);
        Check.due("one is loyal, the others are barred", 1, y.audit(7));
    }

    private static void auditRefused() {
        Doc.says(19, "Throws `IllegalArgumentException` if the number is out of range");
        for (int count : new int[] {0, 8, -1, LEAST, MOST}) {
            ThunderCartel none = new ThunderCartel();
            Check.refused("without members " + count, Check.ARGUMENT, none, () -> none.audit(count));
            Check.fails("nothing was denied", Check.ELEMENT, none::denial);
            ThunderCartel full = Check.members(7);
            Check.refused("with seven " + count, Check.ARGUMENT, full, () -> full.audit(count));
        }
        Doc.says(19, "Throws `UnsupportedOperationException` if denied: 6");
        for (int members = 0; members < 7; members++) {
            ThunderCartel x = Check.members(members);
            int count = members;
            Check.denied("one more than " + count, x, 6, count, () -> x.audit(count + 1));
            Check.denied("seven of " + count, x, 6, count, () -> x.audit(7));
            Check.due("the seed stays", 0, x.setSeed(0));
            if (members > 0) {
                Check.due("as many as " + count, 0, x.audit(count));
            }
        }
    }

    private static void setSeed() {
        Doc.says(20, "- `seed`: the seed, 0 to 1023");
        ThunderCartel x = new ThunderCartel();
        Check.due("initially", 0, x.setSeed(1023));
        Check.due("greatest", 1023, x.setSeed(0));
        Check.due("least", 0, x.setSeed(0));
        Check.due("the present one is no less a change", 3, x.undoCount());
        Doc.says(20, "Throws `IllegalArgumentException` if the seed is out of range");
        for (int seed : new int[] {-1, 1024, LEAST, MOST}) {
            ThunderCartel y = Check.members(3);
            y.setSeed(1000);
            Check.refused("seed " + seed, Check.ARGUMENT, y, () -> y.setSeed(seed));
            Check.due("it stays", 1000, y.setSeed(1));
        }
    }

    /** The members in the order in which the words of the document draw them. */
    private static int[] drawn(int seed, int members) {
        int[] drawn = new int[members];
        boolean[] is = new boolean[members];
        int now = seed;
        for (int place = 0; place < members; place++) {
            now = (now * 109 + 89) % 1024;
            int member = now % members;
            while (is[member]) {
                member = member == members - 1 ? 0 : member + 1;
            }
            is[member] = true;
            drawn[place] = member;
        }
        return drawn;
    }

    private static void drawnMember() {
        Doc.says(21, "Returns a member that would be drawn by an audit now; the seed does not change.");
        for (int seed = 0; seed < 1024; seed++) {
            int members = 1 + seed % 7;
            int[] want = drawn(seed, members);
            ThunderCartel x = Check.members(members);
            x.setSeed(seed);
            // the last place first: each place is told for itself
            for (int place = members - 1; place >= 0; place--) {
                String what = "seed " + seed + ", place " + place + " of " + members;
                Check.due(what, want[place], x.drawnMember(place));
            }
            Check.due("the seed stays " + seed, seed, x.setSeed(seed));
            x.sell(want[0], 1);
            Check.due("the audit draws it " + seed, 1, x.audit(1));
        }
        Doc.says(21, "- `place`: the place in the order in which members are drawn, from 0");
        ThunderCartel x = Check.cartel(9, 1, 9, 1, 9, 1, 9, 1, 9, 1);
        // 89, 574, 191, 428, 661: 4, 4, 1, 3 and 1 modulo 5
        Check.due("first", 4, x.drawnMember(0));
        Check.due("drawn already, and 0 comes after the last one", 0, x.drawnMember(1));
        Check.due("last", 2, x.drawnMember(4));
        Check.due("first of one", 0, Check.members(1).drawnMember(0));
    }

    private static void drawnMemberRefused() {
        Doc.says(21, "Throws `NoSuchElementException` if there are not so many members");
        for (int count : new int[] {0, 1, 5, 7}) {
            for (int place : new int[] {-1, count, 7, LEAST, MOST}) {
                ThunderCartel x = Check.members(count);
                Check.refused("place " + place + " of " + count, Check.ELEMENT, x, () -> x.drawnMember(place));
            }
        }
    }

    private static void link() {
        Doc.says(22, "Returns the number of links afterwards.");
        Check.due("first", 1, Check.members(2).link(0, 1));
        Check.due("first, the other way", 1, Check.members(2).link(1, 0));
        Check.due("the first and the last", 1, Check.members(7).link(0, 6));
        Check.due("twelfth", 12, linked(11).link(6, 5));
        Doc.says(22, "Throws `IndexOutOfBoundsException` if there is no such member, for either");
        Check.noMember("first", (x, member) -> x.link(member, 0));
        Check.noMember("second", (x, member) -> x.link(0, member));
        Check.noMember("both, before the same", (x, member) -> x.link(member, member));
        ThunderCartel full = linked(12);
        Check.fails("with twelve links", Check.INDEX, () -> full.link(0, 7));
    }

    private static void linkRefused() {
        Doc.says(22, "Throws `IllegalArgumentException` if both are the same");
        ThunderCartel one = Check.members(1);
        Check.refused("the only one", Check.ARGUMENT, one, () -> one.link(0, 0));
        ThunderCartel full = linked(12);
        Check.refused("with twelve links, the first", Check.ARGUMENT, full, () -> full.link(0, 0));
        Check.refused("with twelve links, the last", Check.ARGUMENT, full, () -> full.link(6, 6));
        Check.fails("nothing was denied", Check.ELEMENT, full::denial);
        Doc.says(22, "Throws `UnsupportedOperationException` if denied: 4 (they are linked), 1 (12 links)");
        ThunderCartel x = linked(11);
        Check.denied("linked", x, 4, 11, () -> x.link(1, 0));
        Check.due("twelfth", 12, x.link(6, 5));
        ThunderCartel y = linked(12);
        Check.denied("linked, before the limit", y, 4, 12, () -> y.link(0, 1));
        Check.denied("the limit", y, 1, 12, () -> y.link(6, 5));
        y.unlink(0, 1);
        Check.due("there is room again", 12, y.link(6, 5));
    }

    private static void unlink() {
        Doc.says(23, "Returns the number of links afterwards.");
        Check.due("from twelve", 11, linked(12).unlink(0, 1));
        Check.due("the last one", 0, linked(1).unlink(0, 1));
        Check.due("the last one, the other way", 0, linked(1).unlink(1, 0));
        Doc.says(23, "Throws `IndexOutOfBoundsException` if there is no such member, for either");
        Check.noMember("first", (x, member) -> x.unlink(member, 0));
        Check.noMember("second", (x, member) -> x.unlink(0, member));
        Check.noMember("both, before the same", (x, member) -> x.unlink(member, member));
        Doc.says(23, "Throws `IllegalArgumentException` if both are the same");
        ThunderCartel one = Check.members(1);
        Check.refused("the only one", Check.ARGUMENT, one, () -> one.unlink(0, 0));
        ThunderCartel full = linked(12);
        Check.refused("the last", Check.ARGUMENT, full, () -> full.unlink(6, 6));
        Check.fails("nothing was denied", Check.ELEMENT, full::denial);
        Doc.says(23, "Throws `UnsupportedOperationException` if denied: 4 (they are not linked)");
        ThunderCartel none = Check.members(2);
        Check.denied("no links", none, 4, 0, () -> none.unlink(0, 1));
        Check.denied("twelve links", full, 4, 12, () -> full.unlink(6, 5));
        none.link(0, 1);
        none.unlink(0, 1);
        Check.denied("a second time", none, 4, 0, () -> none.unlink(0, 1));
    }

    private static void linkCount() {
        Doc.says(24, "Returns the number of links.");
        Check.due("without members", 0, new ThunderCartel().linkCount());
        for (int links = 0; links <= 12; links++) {
            Check.due("none to twelve", links, linked(links).linkCount());
        }
    }

    private static void areLinked() {
        Doc.says(25, "- `second`: the index of a member, possibly the same");
        Check.due("the only one", false, Check.members(1).areLinked(0, 0));
        Doc.says(25, "Returns whether they are linked, false if both are the same.");
        ThunderCartel x = Check.members(7);
        x.link(6, 0);
        for (int i = 0; i < 7; i++) {
            Check.due("the same " + i, false, x.areLinked(i, i));
            for (int j = 0; j < i; j++) {
                Check.due(i + " and " + j, i == 6 && j == 0, x.areLinked(i, j));
                Check.due(j + " and " + i, i == 6 && j == 0, x.areLinked(j, i));
            }
        }
        Doc.says(25, "Throws `IndexOutOfBoundsException` if there is no such member, for either");
        Check.noMember("first", (y, member) -> y.areLinked(member, 0));
        Check.noMember("second", (y, member) -> y.areLinked(0, member));
        Check.noMember("both", (y, member) -> y.areLinked(member, member));
    }

    private static void watch(String what, int want, ThunderCartel x) {
        Check.due("26 and " + what, want, x.fewestWatchers());
        Check.due("27 and " + what, want, x.fewestWatchersByBranching());
    }

    /** Links all pairs from the one to the other. */
    private static void linkAll(ThunderCartel x, int from, int to) {
        for (int i = from; i <= to; i++) {
            for (int j = from; j < i; j++) {
                x.link(i, j);
            }
        }
    }

    private static void fewestWatchers() {
        Doc.says(26, "Returns the smallest number of members of a set that watches all links, found by trying all "
            + "sets.");
        watch("no members", 0, new ThunderCartel());
        watch("no links", 0, Check.members(7));
        ThunderCartel x = Check.members(2);
        x.link(0, 1);
        watch("all of two", 1, x);
        ThunderCartel last = Check.members(7);
        last.link(5, 6);
        watch("the last two of seven", 1, last);
        Doc.says(27, "Returns the same number as fewestWatchers, found by taking, for a link that is not watched "
            + "yet, one of its members or the other one.");
        // twelve links with one member of each set: 0 to 2 with 3 to 6
        ThunderCartel sides = Check.members(7);
        for (int i = 0; i < 12; i++) {
            sides.link(i % 3, 3 + i / 3);
        }
        watch("twelve links, the smaller side", 3, sides);
        // no set of seven members with twelve links needs more than 5
        ThunderCartel most = Check.members(7);
        linkAll(most, 0, 2);
        linkAll(most, 3, 6);
        watch("nine links in two parts", 5, most);
        for (int i = 3; i < 6; i++) {
            most.link(2, i);
        }
        watch("twelve links in two parts", 5, most);
        most.unlink(0, 1);
        watch("one link less", 4, most);
    }
}
