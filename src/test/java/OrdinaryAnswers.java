/**
 * The sentences of the promises that name no boundary, in the order of the document, on one cartel whose members
 * differ in all that can be asked of them; the numbers are counted by hand.
 */
final class OrdinaryAnswers {
    private static final String MEMBER = "- `member`: the index of the member";
    private static final int[] CAPACITIES = {40, 30, 20, 25, 35, 45, 50};
    private static final int[] QUOTAS = {20, 15, 10, 12, 17, 22, 24};
    private static final int[] SALES = {40, 30, 20, 25, 17, 30, 4};
    private static final int[] EXCESSES = {20, 15, 10, 13, 0, 8, 0};
    private static final int[] VOTES = {7, 6, 5, 4, 3, 2, 1};
    private static final char[] STANDINGS = {'b', 'w', 'w', 'l', 'l', 'l', 'l'};
    /** Of the members 1 to 6 with the threshold 10. */
    private static final int[] SWINGS = {-1, 17, 13, 11, 7, 5, 3};
    /** The steps 8, 2, 3, 2 and 5 are borne by 5, 4, 3, 2 and 1 members, in 5040 orders. */
    private static final int[] SHARES = {45864, 20664, 10584, 15624, 0, 8064, 0};

    private OrdinaryAnswers() {
    }

    static void run() {
        join();
        pardon();
        readersOfMembers();
        standings();
        quotas();
        sales();
        readersOfSales();
        audits();
        links();
        votes();
        shares();
        accounts();
        texts();
        lines();
        denials();
        changes();
    }

    private static ThunderCartel some() {
        ThunderCartel x = new ThunderCartel();
        for (int i = 0; i < 7; i++) {
            x.addMember(CAPACITIES[i], VOTES[i]);
        }
        x.assign(120);
        for (int i = 0; i < 3; i++) {
            x.sell(i, SALES[i]);
            x.audit(7);
        }
        for (int i = 3; i < 7; i++) {
            x.sell(i, SALES[i]);
        }
        x.link(0, 1);
        x.link(1, 2);
        x.link(3, 2);
        x.link(4, 5);
        return x;
    }

    private static void each(Object[] want, Check.CallOfMember call) {
        ThunderCartel x = some();
        for (int i = 0; i < 7; i++) {
            Check.due("of member " + i, want[i], call.answer(x, i));
        }
    }

    private static void each(int[] want, Check.CallOfMember call) {
        Object[] answers = new Object[7];
        for (int i = 0; i < 7; i++) {
            answers[i] = want[i];
        }
        each(answers, call);
    }

    private static void join() {
        Doc.says(2, "Lets a member join.");
        ThunderCartel x = new ThunderCartel();
        for (int i = 0; i < 7; i++) {
            x.addMember(CAPACITIES[i], VOTES[i]);
            Check.due("members", i + 1, x.memberCount());
            Check.due("its capacity", CAPACITIES[i], x.capacity(i));
            Check.due("its votes", VOTES[i], x.votes(i));
            Check.due("the votes of the first", 7, x.votes(0));
        }
    }

    private static void pardon() {
        Doc.says(3, MEMBER);
        for (int i = 0; i < 3; i++) {
            ThunderCartel x = some();
            x.pardon(i);
            for (int j = 0; j < 7; j++) {
                Check.due("member " + j + " after " + i, i == j ? 'l' : STANDINGS[j], x.standing(j));
            }
        }
    }

    private static void readersOfMembers() {
        Doc.says(5, "Returns the capacity of a member.");
        each(CAPACITIES, ThunderCartel::capacity);
        Doc.says(5, MEMBER);
        each(CAPACITIES, ThunderCartel::capacity);
        Doc.says(5, "Returns the capacity.");
        ThunderCartel sold = Check.cartel(40, 7);
        sold.assign(5);
        sold.sell(0, 30);
        Check.due("not what is left of it", 40, sold.capacity(0));
        Doc.says(6, MEMBER);
        each(VOTES, ThunderCartel::votes);
        Doc.says(6, "Returns the number of votes.");
        ThunderCartel x = Check.cartel(40, 7);
        x.setThreshold(5);
        Check.due("not the threshold", 7, x.votes(0));
    }

    private static void standings() {
        Doc.says(7, "Returns the standing of a member.");
        Check.due("warned", 'w', some().standing(1));
        Doc.says(7, MEMBER);
        each(new Object[] {'b', 'w', 'w', 'l', 'l', 'l', 'l'}, ThunderCartel::standing);
        Object none = "NoSuchElementException";
        for (String sentence : new String[] {"Returns the warnings of a member.", MEMBER,
            "Returns the number of warnings."}) {
            Doc.says(8, sentence);
            each(new Object[] {none, 2, 1, none, none, none, none}, (x, i) -> Whole.answer(x, y -> y.warnings(i)));
        }
        for (String sentence : new String[] {"Returns the number of months for which a member is barred.", MEMBER,
            "Returns the number of months."}) {
            Doc.says(9, sentence);
            each(new Object[] {2, none, none, none, none, none, none},
                (x, i) -> Whole.answer(x, y -> y.barredMonths(i)));
        }
        Doc.says(10, "Returns the index of the member.");
        each(new int[] {0, 1, 3, 2, 5, 4, 6}, ThunderCartel::memberByExcess);
    }

    private static void quotas() {
        Doc.says(11, "Returns the rule before.");
        ThunderCartel x = some();
        Check.due("0", 0, x.setRule(1));
        Check.due("1", 1, x.setRule(0));
        Check.due("0 again", 0, x.setRule(1));
        Doc.says(12, "Assigns a total.");
        ThunderCartel y = some();
        y.pardon(0);
        Check.due("the same total again", 0, y.assign(120));
        y.assign(49);
        // 245 is five times 49
        Check.due("a fifth of each capacity", "8 6 4 5 7 9 10", QuotasBoundaries.quotas(y));
        Doc.says(15, MEMBER);
        each(new int[] {0, 22, 15, 18, 26, 33, 36}, (z, i) -> z.quotaBy(i, 150, 0));
        Doc.says(15, "Returns the quota.");
        ThunderCartel z = some();
        // 205 is five times 41
        Check.due("it would get", 4, z.quotaBy(2, 41, 0));
        Check.due("it has", 10, z.quota(2));
        Doc.says(16, "Returns the quota of a member.");
        each(QUOTAS, ThunderCartel::quota);
        Doc.says(16, MEMBER);
        each(QUOTAS, ThunderCartel::quota);
    }

    private static void sales() {
        Doc.says(13, "Lets a member sell.");
        ThunderCartel x = some();
        x.sell(5, 15);
        Check.due("its sales", 45, x.sales(5));
        Doc.says(13, MEMBER);
        // the ones before 4 are barred or have sold all of their capacity
        for (int member = 4; member < 7; member++) {
            ThunderCartel y = some();
            y.sell(member, 1);
            for (int i = 0; i < 7; i++) {
                Check.due("of " + i, SALES[i] + (i == member ? 1 : 0), y.sales(i));
            }
        }
        Doc.says(13, "Returns the sales of the member afterwards.");
        ThunderCartel y = some();
        Check.due("more than the units", 14, y.sell(6, 10));
        Check.due("and more", 50, y.sell(6, 36));
        Check.due("of this member alone", 18, y.sell(4, 1));
        Doc.says(14, "Closes the month.");
        ThunderCartel z = some();
        Check.due("3 coins for each of 66 units", 198, z.close());
        Check.due("month", 1, z.month());
        Check.due("sales", 0, z.sales(0) + z.sales(6));
        Check.due("sold", 166, z.soldTotal());
    }

    private static void readersOfSales() {
        Doc.says(17, MEMBER);
        each(SALES, ThunderCartel::sales);
        Doc.says(17, "Returns the number of units.");
        ThunderCartel x = Check.cartel(40, 7);
        x.sell(0, 3);
        x.sell(0, 4);
        Check.due("of two sales", 7, x.sales(0));
        Doc.says(18, MEMBER);
        each(EXCESSES, ThunderCartel::excess);
        Doc.says(18, "Returns the excess.");
        x.assign(5);
        Check.due("the units above the quota", 2, x.excess(0));
    }

    private static void audits() {
        Doc.says(19, "Draws members for an audit and warns those with an excess.");
        ThunderCartel x = some();
        Check.due("three of them", 4, x.audit(7));
        // 0 is barred already, 1 becomes barred, and 4 and 6 have no excess
        String[] standings = {"b2", "b2", "w2", "w1", "l", "w1", "l"};
        for (int i = 0; i < 7; i++) {
            Check.due("member " + i, standings[i], Check.standing(x, i));
        }
        Doc.says(20, "Sets the seed.");
        ThunderCartel y = Check.members(7);
        y.setSeed(1);
        // 198 is 2 modulo 7
        Check.due("the first of 198", 2, y.drawnMember(0));
        y.setSeed(2);
        // 307 is 6 modulo 7
        Check.due("the first of 307", 6, y.drawnMember(0));
        Doc.says(20, "Returns the seed before.");
        Check.due("as it was set", 2, y.setSeed(0));
        y.audit(2);
        // 89 and then 9701 + 89, which is 574 modulo 1024
        Check.due("after an audit", 574, y.setSeed(7));
        Doc.says(21, "Returns the index of the member.");
        // 89, 574, 191, 428, 661, 458, 851: 5, 0, 2, 1, 3, 3, 4 modulo 7
        int[] drawn = {5, 0, 2, 1, 3, 4, 6};
        ThunderCartel z = Check.members(7);
        for (int place = 0; place < 7; place++) {
            Check.due("at " + place, drawn[place], z.drawnMember(place));
        }
    }

    private static void link(int promise, String sentence) {
        Doc.says(promise, sentence);
        for (int i = 0; i < 7; i++) {
            for (int j = 0; j < 7; j++) {
                if (i != j) {
                    ThunderCartel x = Check.members(7);
                    x.link(i, j);
                    Check.due(i + " and " + j, true, x.areLinked(i, j));
                    Check.due("one link", 1, x.linkCount());
                    x.unlink(i, j);
                    Check.due(i + " and " + j + " no more", false, x.areLinked(i, j));
                    Check.due("no link", 0, x.linkCount());
                }
            }
        }
    }

    private static void links() {
        link(22, "Links two members.");
        link(22, "- `first`: the index of a member");
        link(22, "- `second`: the index of the other member");
        link(23, "Removes the link between two members.");
        link(23, "- `first`: the index of a member");
        link(23, "- `second`: the index of the other member");
        Doc.says(23, "Removes the link between two members.");
        ThunderCartel x = some();
        x.unlink(1, 2);
        Check.due("between these", false, x.areLinked(2, 1));
        Check.due("not between 0 and 1", true, x.areLinked(0, 1));
        Check.due("not between 2 and 3", true, x.areLinked(2, 3));
        Doc.says(25, "Returns whether two members are linked.");
        Check.due("0 and 1", true, some().areLinked(0, 1));
        Check.due("0 and 2", false, some().areLinked(0, 2));
        Doc.says(25, "- `first`: the index of a member");
        each(new Object[] {false, true, false, true, false, false, false}, (y, i) -> y.areLinked(i, 2));
        Doc.says(26, "Returns the number of members.");
        Check.due("1, 2 and one of 4 and 5", 3, some().fewestWatchers());
        Doc.says(27, "Returns the number of members.");
        Check.due("1, 2 and one of 4 and 5", 3, some().fewestWatchersByBranching());
    }

    private static void votes() {
        Doc.says(28, "Sets the threshold.");
        ThunderCartel x = some();
        x.setThreshold(21);
        Check.due("all of the votes", 1, x.winningCoalitions());
        x.setThreshold(22);
        Check.due("one more", 0, x.winningCoalitions());
        Doc.says(28, "Returns the threshold before.");
        Check.due("as it was set", 22, x.setThreshold(3));
        Check.due("as it was set again", 3, x.setThreshold(4));
        Doc.says(29, "Returns the number of coalitions.");
        // of the 64 sets of 1 to 6 half have more than 10 votes, and 5 have 10
        Check.due("the ones with 10 votes or more", 37, some().winningCoalitions());
        Object[] swings = new Object[7];
        for (int i = 0; i < 7; i++) {
            swings[i] = i == 0 ? "NoSuchElementException" : (Object) SWINGS[i];
        }
        for (String sentence : new String[] {MEMBER, "Returns the number of swings."}) {
            Doc.says(30, sentence);
            each(swings, (y, i) -> Whole.answer(y, z -> z.swings(i)));
            Doc.says(31, sentence);
            each(swings, (y, i) -> Whole.answer(y, z -> z.swingsByCounts(i)));
        }
        Doc.says(33, "Returns the difference.");
        Check.due("11 and 10 votes", 1, some().leastDifferenceBySums());
        Check.due("the same", 1, some().leastDifference());
        ThunderCartel y = some();
        y.pardon(0);
        Check.due("14 and 14 votes", 0, y.leastDifferenceBySums());
    }

    private static void shares() {
        Doc.says(34, MEMBER);
        each(SHARES, ThunderCartel::share);
        Doc.says(34, "Returns the share.");
        Check.due("of the greatest excess", 45864, some().share(0));
        Doc.says(35, MEMBER);
        each(SHARES, ThunderCartel::shareBySteps);
    }

    private static void accounts() {
        ThunderCartel x = some();
        Doc.says(41, "Returns the mean.");
        Check.due("of 166 units", 166.0 / 7.0, x.meanSales());
        x.close();
        Doc.says(36, "Returns the number of months.");
        Check.due("one", 1, x.month());
        Doc.says(37, "Returns the number of units.");
        Check.due("sold", 166, x.soldTotal());
        Doc.says(39, "Returns the number of units.");
        Check.due("fined", 66, x.finedTotal());
        Doc.says(40, "Returns the number of coins.");
        Check.due("fines", 198, x.fines());
        Doc.says(42, "Returns the share.");
        Check.due("of the units", 66.0f / 166.0f, x.finedShare());
    }

    private static void texts() {
        Doc.says(43, "Appends a character to the text buffer.");
        ThunderCartel x = Check.members(1);
        String text = "sell 0 12;close";
        for (int i = 0; i < text.length(); i++) {
            Check.due("length", i + 1, x.feed(text.charAt(i)));
        }
        Check.due("behind the ones before", 2, x.execute());
        Check.due("twelve, not twenty-one", 12, x.soldTotal());
        Doc.says(44, "Returns the number of commands.");
        String commands = "";
        for (int count = 1; count <= 10; count++) {
            commands = count == 1 ? "close" : commands + ";close";
            Check.due(commands, count, Check.run(x, commands));
        }
        Doc.says(45, "Returns the fault position.");
        Check.feed(x, "close;cut 0_1");
        Check.fails("a wrong sign", Check.ARGUMENT, x::execute);
        Check.due("its index", 11, x.faultPosition());
    }

    private static void lines() {
        Doc.says(46, MEMBER);
        each(new Object[] {"0:40/20/40v7xx", "1:30/15/30v6!!", "2:20/10/20v5!", "3:25/12/25v4", "4:17/17/35v3",
            "5:30/22/45v2", "6:4/24/50v1"}, Check::line);
        Doc.says(47, "Returns the character.");
        ThunderCartel x = some();
        x.writeMember(2);
        String line = "2:20/10/20v5!";
        for (int i = line.length() - 1; i >= 0; i--) {
            Check.due("at " + i, line.charAt(i), x.lineCharacter(i));
        }
    }

    private static void denials() {
        ThunderCartel x = some();
        Doc.says(48, "Returns the number of the latest denial.");
        Check.fails("loyal", Check.DENIED, () -> x.pardon(3));
        Check.due("of the first one", 5, x.denial());
        Check.fails("barred", Check.DENIED, () -> x.sell(0, 1));
        Check.due("of the second one", 2, x.denial());
        Doc.says(49, "Returns the detail.");
        Check.due("months", 2, x.denialDetail());
        Check.fails("too much", Check.DENIED, () -> x.sell(4, 19));
        Check.due("what is left of the capacity", 18, x.denialDetail());
        Doc.says(50, "Returns the number of the cause of the latest denial.");
        Check.feed(x, "close;sell 4 36;pardon 3");
        Check.fails("the second command", Check.DENIED, x::execute);
        Check.due("too much again", 3, x.denialCause());
        Check.feed(x, "pardon 3;sell 4 36");
        Check.fails("the first command", Check.DENIED, x::execute);
        Check.due("loyal again", 5, x.denialCause());
    }

    private static void changes() {
        Doc.says(52, "Returns the number of changes.");
        ThunderCartel x = Check.cartel(40, 7, 30, 6);
        Check.due("two joins", 2, x.undoCount());
        x.assign(20);
        x.sell(0, 9);
        Check.due("and two more", 4, x.undoCount());
        x.undo();
        Check.due("one less", 3, x.undoCount());
    }
}
