/** The document's terms from Members to Common fine; each sentence names the promises that it is tested on. */
final class TermsBoundaries {
    private TermsBoundaries() {
    }

    static void run() {
        calls();
        members();
        barredMembers();
        quotas();
        quotasByRule0();
        quotasByRule1();
        audits();
        auditedStandings();
        closing();
        closingOfStandings();
        links();
        votes();
        camps();
        commonFine();
    }

    private static void calls() {
        Doc.first("An object is used for at most 512 calls after it has been made; what later calls answer is free.");
        ThunderCartel x = new ThunderCartel();
        for (int i = 0; i < 511; i++) {
            x.close();
        }
        Check.due("the last one", 511, x.month());
        ThunderCartel y = Check.members(1);
        for (int i = 0; i < 127; i++) {
            y.sell(0, 99);
            y.close();
            y.saveSnapshot();
            y.restoreSnapshot();
        }
        Check.due("37 and the last but two", 127 * 99, y.soldTotal());
        Check.due("40 and the last but one", 3 * 127 * 99, y.fines());
        Check.due("54 and the last one", 1, y.restoreSnapshot());
    }

    /** One member of capacity 9 with 3 votes and 9 units of excess, audited so many times. */
    static ThunderCartel audited(int times) {
        ThunderCartel x = Check.cartel(9, 3);
        x.sell(0, 9);
        for (int i = 0; i < times; i++) {
            x.audit(1);
        }
        return x;
    }

    private static void members() {
        Doc.terms("At most 7 members exist, indexed from 0 in the order in which they joined.", 2, 4);
        ThunderCartel x = new ThunderCartel();
        for (int i = 0; i < 7; i++) {
            Check.due("index", i, x.addMember(99 - i, 20 - i));
        }
        Check.denied("the eighth", x, 1, 7, () -> x.addMember(1, 1));
        for (int i = 0; i < 7; i++) {
            Check.due("capacity", 99 - i, x.capacity(i));
            Check.due("votes", 20 - i, x.votes(i));
        }
        Doc.terms("A member has a capacity from 1 to 99 units, from 1 to 20 votes, a quota, initially 0, and sales "
            + "of the present month, initially 0, which are never greater than its capacity.", 2, 13, 16, 17);
        ThunderCartel y = Check.cartel(1, 1, 99, 20);
        Check.due("initially", "0 0", QuotasBoundaries.quotas(y));
        Check.due("no sales", 0, y.sales(0) + y.sales(1));
        Check.due("the least capacity", 1, y.sell(0, 1));
        Check.denied("a unit more", y, 3, 0, () -> y.sell(0, 1));
        Check.due("the greatest capacity", 99, y.sell(1, 99));
        Check.denied("a unit more of it", y, 3, 0, () -> y.sell(1, 1));
        y.assign(300);
        Check.denied("a quota is no capacity", y, 3, 0, () -> y.sell(1, 1));
        Doc.terms("The excess of a member is the part of its sales that is above its quota, or 0 if there is none.",
            18);
        ThunderCartel z = Check.members(1);
        z.sell(0, 50);
        int[] quotas = {0, 1, 49, 50, 51, 300};
        int[] excesses = {50, 49, 1, 0, 0, 0};
        for (int i = 0; i < quotas.length; i++) {
            z.assign(quotas[i]);
            Check.due("the quota " + quotas[i], excesses[i], z.excess(0));
        }
        Doc.terms("A member is loyal, warned or barred; initially it is loyal.", 7);
        Check.due("initially", 'l', Check.members(1).standing(0));
        Check.due("the last of seven", 'l', Check.members(7).standing(6));
        Doc.terms("A warned member has 1 or 2 warnings.", 8);
        Check.due("least", "w1", Check.standing(audited(1), 0));
        Check.due("greatest", "w2", Check.standing(audited(2), 0));
        Check.due("no third one", "b2", Check.standing(audited(3), 0));
    }

    private static void barredMembers() {
        Doc.terms("A barred member is barred for 1 or 2 months; it gets no quota, cannot sell and does not vote.",
            9, 12, 13, 29);
        for (int months = 2; months >= 1; months--) {
            ThunderCartel x = audited(3);
            x.setThreshold(1);
            if (months == 1) {
                x.close();
                x.close();
            }
            Check.due("months", months, x.barredMonths(0));
            x.assign(300);
            Check.due("no quota", 0, x.quota(0));
            Check.denied("cannot sell", x, 2, months, () -> x.sell(0, 1));
            Check.due("does not vote", 0, x.winningCoalitions());
        }
        Doc.terms("The active members are those that are not barred.", 12, 13, 29);
        for (int times = 0; times <= 2; times++) {
            ThunderCartel x = audited(times);
            x.setThreshold(3);
            x.assign(300);
            Check.due("a warned one gets a quota " + times, 300, x.quota(0));
            Check.due("and votes " + times, 1, x.winningCoalitions());
            x.close();
            Check.due("and sells " + times, 9, x.sell(0, 9));
        }
    }

    private static void quotas() {
        Doc.terms("When a total is assigned, it is apportioned among the active members by their capacities, and "
            + "each other member gets the quota 0; without active members, all quotas are 0.", 12);
        for (int rule = 0; rule <= 1; rule++) {
            ThunderCartel x = Check.cartel(10, 1, 20, 1, 30, 1);
            if (rule == 1) {
                x.setRule(1);
            }
            x.assign(300);
            Check.due("all are active", "50 100 150", QuotasBoundaries.quotas(x));
            x.assign(0);
            x.sell(1, 1);
            Check.barAll(x);
            x.assign(300);
            Check.due("two are active", "75 0 225", QuotasBoundaries.quotas(x));
            x.assign(0);
            x.sell(0, 1);
            x.sell(2, 1);
            x.pardon(1);
            x.assign(6);
            Check.due("all are active again", "1 2 3", QuotasBoundaries.quotas(x));
            x.sell(0, 1);
            x.sell(1, 2);
            x.sell(2, 3);
            Check.barAll(x);
            Check.due("each keeps its quota", "1 2 3", QuotasBoundaries.quotas(x));
            Check.due("none is active, " + rule, 3, x.assign(300));
            Check.due("all quotas are 0, " + rule, "0 0 0", QuotasBoundaries.quotas(x));
        }
        ThunderCartel left = Check.cartel(1, 1, 3, 1, 3, 1);
        left.sell(0, 1);
        // 10, 30 and 30 of 7: the remainders are 3, 2 and 2, so the first one gets the unit that is left
        left.assign(10);
        Check.due("a unit that is left", "2 4 4", QuotasBoundaries.quotas(left));
        left.undo();
        Check.barAll(left);
        left.assign(9);
        Check.due("is left for active members alone", "0 5 4", QuotasBoundaries.quotas(left));
        Doc.terms("A member that becomes barred keeps its quota until the next total is assigned.", 12, 16);
        ThunderCartel x = Check.cartel(9, 1);
        x.assign(5);
        x.sell(0, 9);
        Check.barAll(x);
        Check.due("when it becomes barred", "b2 5", Check.standing(x, 0) + " " + x.quota(0));
        x.close();
        x.close();
        x.close();
        Check.due("when it is loyal again", "l 5", Check.standing(x, 0) + " " + x.quota(0));
        x.sell(0, 9);
        Check.barAll(x);
        x.assign(300);
        Check.due("the next total", "b2 0", Check.standing(x, 0) + " " + x.quota(0));
        x.pardon(0);
        Check.due("a pardon gives none back", "l 0", Check.standing(x, 0) + " " + x.quota(0));
    }

    private static String quotas(int rule, int total, int... capacities) {
        ThunderCartel x = new ThunderCartel();
        for (int capacity : capacities) {
            x.addMember(capacity, 1);
        }
        if (rule == 1) {
            x.setRule(1);
        }
        x.assign(total);
        return QuotasBoundaries.quotas(x);
    }

    private static void quotasByRule0() {
        Doc.terms("Let C be the sum of the capacities of the active members.", 12);
        Check.due("least", "300", quotas(0, 300, 1));
        Check.due("greatest", "43 43 43 43 43 43 42", quotas(0, 300, 99, 99, 99, 99, 99, 99, 99));
        ThunderCartel x = Check.cartel(90, 1, 10, 1, 20, 1);
        x.sell(0, 1);
        Check.barAll(x);
        x.assign(30);
        Check.due("without the barred one", "0 10 20", QuotasBoundaries.quotas(x));
        ThunderCartel undone = Check.cartel(1, 1, 1, 1, 1, 1);
        // 2 of 3 for each: the remainders are 2, 2 and 2
        undone.assign(2);
        undone.undo();
        undone.undo();
        // 3, 3 of 2: the remainders are 1 and 1, and no third member is ahead of them any more
        undone.assign(3);
        Check.due("without the one that is undone", "2 1", QuotasBoundaries.quotas(undone));
        Doc.terms("By the rule 0, each of them first gets the total times its capacity divided by C, rounded down; "
            + "the units that are left are given one each to the members with the greatest remainders of these "
            + "divisions, and for equal remainders to the ones with the lowest indices.", 12);
        Check.due("none is left", "1 2 3", quotas(0, 6, 1, 2, 3));
        Check.due("one is left, equal remainders", "1 0 0 0 0 0 0", quotas(0, 1, 9, 9, 9, 9, 9, 9, 9));
        Check.due("six are left, equal remainders", "1 1 1 1 1 1 0", quotas(0, 6, 9, 9, 9, 9, 9, 9, 9));
        // 7, 14 and 49 of 10: five units are given at first, and the remainders are 7, 4 and 9
        Check.due("two are left, the last remainder is the greatest", "1 1 5", quotas(0, 7, 1, 2, 7));
        // 3, 3 and 24 of 10: the remainders are 3, 3 and 4
        Check.due("the last remainder is the greatest by 1", "0 0 3", quotas(0, 3, 1, 1, 8));
        // 5, 5, 10 and 40 of 12: three units are given at first, and the remainders are 5, 5, 10 and 4
        Check.due("two are left, the first of two equal ones", "1 0 1 3", quotas(0, 5, 1, 1, 2, 8));
    }

    private static void quotasByRule1() {
        Doc.terms("By the rule 1, all units are given one after the other, each to the member whose capacity divided "
            + "by 1 more than the number of units that it has then is greatest, compared as exact fractions, and for "
            + "equal fractions to the one with the lowest index.", 12);
        Check.due("no unit", "0 0", quotas(1, 0, 1, 99));
        Check.due("one unit for the greatest", "0 1", quotas(1, 1, 1, 99));
        // the ninety-eighth is given at 99 / 98, above 1 / 1, and the next at 1 / 1 for the lowest index
        Check.due("equal fractions, not yet", "0 98", quotas(1, 98, 1, 99));
        Check.due("equal fractions, the lowest index", "1 98", quotas(1, 99, 1, 99));
        Check.due("equal fractions, the other one", "1 99", quotas(1, 100, 1, 99));
        Check.due("the other way round", "99 0", quotas(1, 99, 99, 1));
        // 98 / 49 is 2 / 1 exactly, and 97 / 49 is below it
        Check.due("exactly equal", "49 0", quotas(1, 49, 98, 2));
        Check.due("below by 1 / 49", "48 1", quotas(1, 49, 97, 2));
        Check.due("seven alike", "43 43 43 43 43 43 42", quotas(1, 300, 7, 7, 7, 7, 7, 7, 7));
        Check.due("all 300 to one", "300", quotas(1, 300, 1));
        ThunderCartel first = Check.cartel(99, 1, 7, 1, 3, 1);
        first.setRule(1);
        first.sell(0, 1);
        Check.barAll(first);
        first.assign(3);
        // 7, 7 / 2 and 3: the first one would be ahead with 99, but it is barred
        Check.due("the first one is barred", "0 2 1", QuotasBoundaries.quotas(first));
        Doc.terms("A quota can be greater than the capacity.", 16);
        Check.due("by rule 0", "3 297", quotas(0, 300, 1, 99));
        Check.due("by rule 1", "3 297", quotas(1, 300, 1, 99));
        Doc.terms("The rule is initially 0.", 11);
        ThunderCartel x = new ThunderCartel();
        Check.denied("so 0 is the present one", x, 7, 0, () -> x.setRule(0));
        Check.due("and the one before 1", 0, x.setRule(1));
    }

    private static void audits() {
        Doc.terms("To draw a number of members for an audit, the seed, which is from 0 to 1023 and initially 0, "
            + "becomes the seed times 109 plus 89, modulo 1024, for each of them; the member with the index seed "
            + "modulo the number of members is drawn, or, if it is drawn already, the next one that is not, where "
            + "member 0 comes after the last one.", 19, 20, 21);
        ThunderCartel x = Check.members(7);
        Check.due("initially", 0, x.setSeed(0));
        for (int want : new int[] {89, 574, 191, 428, 661}) {
            x.audit(1);
            Check.due("one after the other", want, x.setSeed(want));
        }
        x.setSeed(1023);
        x.audit(1);
        Check.due("from the greatest", 1004, x.setSeed(0));
        x.audit(7);
        Check.due("seven at once", seedAfter(0, 7), x.setSeed(0));
        for (int seed = 0; seed < 1024; seed++) {
            ThunderCartel y = Check.members(1);
            y.setSeed(seed);
            y.audit(1);
            Check.due("from " + seed, seedAfter(seed, 1), y.setSeed(0));
        }
        // 89, 574, 191, 428 and 661 modulo 5: 4, then 4 again, so 0 comes, then 1, 3, and 1 again, so 2 comes
        ThunderCartel five = Check.members(5);
        int[] order = {4, 0, 1, 3, 2};
        for (int place = 0; place < order.length; place++) {
            Check.due("place " + place, order[place], five.drawnMember(place));
        }
    }

    private static int seedAfter(int seed, int draws) {
        int now = seed;
        for (int i = 0; i < draws; i++) {
            now = (now * 109 + 89) % 1024;
        }
        return now;
    }

    private static void auditedStandings() {
        Doc.terms("Each drawn member with an excess is warned: a loyal one gets 1 warning, a warned one 1 warning "
            + "more, and instead of a third warning it becomes barred for 2 months; a barred one stays as it is.",
            19);
        ThunderCartel x = Check.cartel(9, 1, 9, 1);
        x.assign(8);
        x.sell(0, 4);
        x.sell(1, 5);
        String[] standings = {"w1", "w2", "b2", "b2"};
        for (int i = 0; i < standings.length; i++) {
            Check.due("warned or barred by it", i < 3 ? 1 : 0, x.audit(2));
            Check.due("one above the quota", standings[i], Check.standing(x, 1));
            Check.due("the quota", "l", Check.standing(x, 0));
        }
        ThunderCartel month = audited(3);
        month.assign(0);
        month.close();
        month.close();
        Check.due("barred without sales", 0, month.audit(1));
        Check.due("stays at one month", "b1", Check.standing(month, 0));
        ThunderCartel one = Check.members(2);
        one.sell(0, 1);
        one.sell(1, 1);
        // 89 is odd, so member 1 is drawn
        one.audit(1);
        Check.due("one that is not drawn", "l", Check.standing(one, 0));
        Check.due("the one that is drawn", "w1", Check.standing(one, 1));
    }

    private static void closing() {
        Doc.terms("When the month is closed, the members are visited in ascending order.", 14);
        Check.due("none to visit", 0, new ThunderCartel().close());
        Doc.terms("Each visited member pays a fine of 3 coins for each unit of its excess.", 14);
        for (int excess : new int[] {0, 1, 99}) {
            ThunderCartel x = Check.members(7);
            x.assign(7);
            x.sell(6, 1);
            x.assign(0);
            if (excess == 0) {
                x.assign(7);
            }
            if (excess == 99) {
                x.sell(6, 98);
            }
            Check.due("excess " + excess, 3 * excess, x.close());
        }
        Doc.terms("Then its sales become 0.", 14, 17);
        ThunderCartel x = Check.members(7);
        for (int i = 0; i < 7; i++) {
            x.sell(i, i == 0 ? 99 : i);
        }
        x.close();
        for (int i = 0; i < 7; i++) {
            Check.due("each one", 0, x.sales(i));
        }
        Check.due("all can be sold again", 99, x.sell(0, 99));
        Doc.terms("The month, which is initially 0, increases by 1 afterwards.", 14, 36);
        ThunderCartel y = new ThunderCartel();
        Check.due("initially", 0, y.month());
        for (int month = 1; month <= 9; month++) {
            y.close();
            Check.due("by 1", month, y.month());
        }
    }

    private static void closingOfStandings() {
        Doc.terms("If it has no excess, a member with 2 warnings has 1 then, a member with 1 warning is loyal, and a "
            + "member that is barred is barred for one month less; it is loyal when no month is left.", 14);
        String[][] standings = {{"l", "l"}, {"w1", "l", "l"}, {"w2", "w1", "l", "l"}, {"b2", "b1", "l", "l"}};
        for (int times = 0; times < standings.length; times++) {
            ThunderCartel x = audited(times);
            Check.due("before", standings[times][0], Check.standing(x, 0));
            x.close();
            Check.due("with an excess", standings[times][0], Check.standing(x, 0));
            for (int i = 1; i < standings[times].length; i++) {
                x.close();
                Check.due("without an excess " + i, standings[times][i], Check.standing(x, 0));
            }
        }
        for (int quota = 8; quota <= 9; quota++) {
            ThunderCartel x = audited(1);
            x.assign(quota);
            x.close();
            Check.due("sales of 9, quota " + quota, quota == 9 ? "l" : "w1", Check.standing(x, 0));
        }
        Doc.terms("A member that is barred can have sales of the month in which it was barred.", 14, 17);
        ThunderCartel x = audited(3);
        Check.due("its sales", 9, x.sales(0));
        Check.due("its excess", 9, x.excess(0));
        Check.due("its fine", 27, x.close());
        Check.due("not in the next month", 0, x.sales(0));
    }

    private static void links() {
        Doc.terms("At most 12 links connect members; a link connects two different members, and there is at most one "
            + "between the same two.", 22, 24);
        ThunderCartel x = Check.members(7);
        Check.fails("the same", Check.ARGUMENT, () -> x.link(3, 3));
        for (int i = 0; i < 12; i++) {
            Check.due("one to twelve", i + 1, x.link(i % 3, 3 + i / 3));
        }
        Check.denied("between the same two", x, 4, 12, () -> x.link(6, 2));
        Check.denied("the thirteenth", x, 1, 12, () -> x.link(0, 1));
        Doc.terms("A set of members watches all links if each link connects at least one member of the set.", 26, 27);
        ThunderCartel y = Check.members(3);
        Check.due("26 and none", 0, y.fewestWatchers());
        Check.due("27 and none", 0, y.fewestWatchersByBranching());
        int[][] pairs = {{0, 1}, {0, 2}, {2, 1}};
        int[] want = {1, 1, 2};
        for (int i = 0; i < pairs.length; i++) {
            y.link(pairs[i][0], pairs[i][1]);
            Check.due("26 and links " + (i + 1), want[i], y.fewestWatchers());
            Check.due("27 and links " + (i + 1), want[i], y.fewestWatchersByBranching());
        }
        ThunderCartel barred = Check.members(2);
        barred.link(0, 1);
        barred.sell(0, 1);
        barred.sell(1, 1);
        Check.barAll(barred);
        Check.due("26 and barred ones", 1, barred.fewestWatchers());
        Check.due("27 and barred ones", 1, barred.fewestWatchersByBranching());
    }

    private static void votes() {
        Doc.terms("A coalition is a set of active members.", 29);
        ThunderCartel x = Check.cartel(9, 3, 9, 4, 9, 5);
        x.setThreshold(1);
        Check.due("each set but the empty one", 7, x.winningCoalitions());
        x.sell(2, 1);
        Check.barAll(x);
        Check.due("without the barred one", 3, x.winningCoalitions());
        Doc.terms("It wins if its votes are at least the threshold, which is from 1 to 99 and initially 10.", 28, 29);
        Check.due("initially, one below it", 0, Check.cartel(9, 9).winningCoalitions());
        Check.due("initially, just it", 1, Check.cartel(9, 10).winningCoalitions());
        ThunderCartel y = Check.cartel(9, 20, 9, 20, 9, 20, 9, 20, 9, 18, 9, 1);
        y.setThreshold(99);
        Check.due("greatest, just it", 1, y.winningCoalitions());
        y.undo();
        y.undo();
        y.setThreshold(99);
        Check.due("greatest, one below it", 0, y.winningCoalitions());
        y.setThreshold(1);
        Check.due("least", 31, y.winningCoalitions());
        Doc.terms("The swings of an active member are the number of coalitions without it that do not win, but win "
            + "with it.", 30, 31);
        ThunderCartel z = Check.cartel(9, 9, 9, 1, 9, 10);
        int[] swings = {1, 1, 3};
        for (int i = 0; i < 3; i++) {
            Check.due("30 and " + i, swings[i], z.swings(i));
            Check.due("31 and " + i, swings[i], z.swingsByCounts(i));
        }
        z.sell(2, 1);
        Check.barAll(z);
        Check.due("30 and one is barred", 1, z.swings(0));
        Check.due("31 and one is barred", 1, z.swingsByCounts(1));
    }

    private static void camps() {
        Doc.terms("Camps divide the active members into two sets, one of which may be empty; the difference of camps "
            + "is the difference of the votes of both sets, without sign.", 32, 33);
        ThunderCartel x = new ThunderCartel();
        int[] votes = {20, 7, 13, 1};
        int[] want = {20, 13, 0, 1};
        Check.due("32 and both are empty", 0, x.leastDifference());
        Check.due("33 and both are empty", 0, x.leastDifferenceBySums());
        for (int i = 0; i < votes.length; i++) {
            x.addMember(9, votes[i]);
            Check.due("32 and members " + (i + 1), want[i], x.leastDifference());
            Check.due("33 and members " + (i + 1), want[i], x.leastDifferenceBySums());
        }
        x.sell(0, 1);
        Check.barAll(x);
        Check.due("32 and the barred one is in none", 5, x.leastDifference());
        Check.due("33 and the barred one is in none", 5, x.leastDifferenceBySums());
    }

    private static void shares(String what, ThunderCartel x, int... want) {
        for (int i = 0; i < want.length; i++) {
            Check.due("34 and " + what + " " + i, want[i], x.share(i));
            Check.due("35 and " + what + " " + i, want[i], x.shareBySteps(i));
        }
    }

    private static void commonFine() {
        Doc.terms("For a set of members, the common fine is the greatest excess of a member of the set, and 0 for "
            + "the empty set.", 34, 35);
        ThunderCartel x = Check.members(1);
        x.sell(0, 99);
        shares("the first is compared with none", x, 99);
        x.assign(99);
        shares("no excess", x, 0);
        Doc.terms("The contribution of a member in an order of all members is the common fine of the set of this "
            + "member and those before it, less the common fine of those before it.", 34, 35);
        ThunderCartel y = Check.members(2);
        y.sell(0, 10);
        y.sell(1, 4);
        // first and second: 10 and 0, then 6 and 4
        shares("two orders", y, 16, 4);
        y.sell(1, 6);
        shares("equal ones", y, 10, 10);
        Doc.terms("The share of a member is the sum of its contributions in all orders of all members.", 34, 35);
        ThunderCartel z = Check.members(3);
        z.sell(0, 3);
        z.sell(1, 9);
        z.sell(2, 5);
        shares("six orders", z, 6, 36, 12);
        z.sell(1, 1);
        Check.barAll(z);
        z.assign(0);
        shares("barred ones too", z, 6, 42, 12);
    }
}
