/** The document's terms from Denials to Exceptions; each sentence names the promises that it is tested on. */
final class TermsOfCallsBoundaries {
    private TermsOfCallsBoundaries() {
    }

    static void run() {
        denials();
        denialsOfTexts();
        texts();
        faults();
        undo();
        untouched();
        exceptions();
    }

    private static void denials() {
        Doc.terms("Some calls are denied for a reason, which has a number and a detail.", 48, 49);
        ThunderCartel x = TermsBoundaries.audited(0);
        Check.denied("both", x, 3, 0, () -> x.sell(0, 99));
        Doc.terms("Each method lists its possible denials in the order in which they are checked.", 13, 22);
        ThunderCartel barred = TermsBoundaries.audited(3);
        Check.denied("2 is ahead of 3", barred, 2, 2, () -> barred.sell(0, 1));
        ThunderCartel full = Check.members(7);
        for (int i = 0; i < 12; i++) {
            full.link(i % 3, 3 + i / 3);
        }
        Check.denied("4 is ahead of 1", full, 4, 12, () -> full.link(0, 3));
        Doc.terms("Denial 1: a limit is reached; the detail is the limit.", 2, 22);
        Check.denied("links", full, 1, 12, () -> full.link(0, 1));
        ThunderCartel seven = Check.members(7);
        Check.denied("members", seven, 1, 7, () -> seven.addMember(1, 1));
        Doc.terms("Denial 2: the member is barred; the detail is the number of months.", 13);
        Check.denied("two", barred, 2, 2, () -> barred.sell(0, 99));
        barred.close();
        barred.close();
        Check.denied("one", barred, 2, 1, () -> barred.sell(0, 9));
        Doc.terms("Denial 3: the sales would exceed the capacity; the detail is the capacity less the sales.", 13);
        for (int sales = 0; sales <= 9; sales++) {
            ThunderCartel y = Check.cartel(9, 1);
            if (sales > 0) {
                y.sell(0, sales);
            }
            int room = 9 - sales;
            Check.denied("by one, sales " + sales, y, 3, room, () -> y.sell(0, room + 1));
            Check.denied("by most, sales " + sales, y, 3, room, () -> y.sell(0, 99));
        }
        Doc.terms("Denial 4: the members are linked, or are not linked; the detail is the number of links.", 22, 23);
        ThunderCartel z = Check.members(3);
        Check.denied("not linked, none", z, 4, 0, () -> z.unlink(0, 1));
        z.link(0, 1);
        Check.denied("linked, one", z, 4, 1, () -> z.link(1, 0));
        z.link(0, 2);
        Check.denied("not linked, two", z, 4, 2, () -> z.unlink(2, 1));
        Doc.terms("Denial 5: the member is loyal; the detail is its index.", 3);
        Check.denied("the first", z, 5, 0, () -> z.pardon(0));
        Check.denied("the last", seven, 5, 6, () -> seven.pardon(6));
        Doc.terms("Denial 6: there are fewer members than are to be drawn; the detail is their number.", 19);
        ThunderCartel none = new ThunderCartel();
        Check.denied("none", none, 6, 0, () -> none.audit(1));
        Check.denied("three", z, 6, 3, () -> z.audit(4));
        Doc.terms("Denial 7: the value is the present one; the detail is this value.", 11, 28);
        Check.denied("rule", none, 7, 0, () -> none.setRule(0));
        Check.denied("threshold", none, 7, 10, () -> none.setThreshold(10));
    }

    private static void failing(ThunderCartel x, String text, int index, int cause) {
        Check.feed(x, text);
        Check.refused(text, Check.DENIED, x, x::execute);
        Check.due("48 and " + text, 8, x.denial());
        Check.due("49 and " + text, index, x.denialDetail());
        Check.due("50 and " + text, cause, x.denialCause());
    }

    private static void denialsOfTexts() {
        Doc.terms("Denial 8: a command of a text failed; the detail is the index of the command, from 0.", 44, 49);
        ThunderCartel x = Check.members(1);
        String text = "";
        for (int index = 0; index < 10; index++) {
            ThunderCartel y = Check.members(1);
            failing(y, text + "rule 0", index, 7);
            text = text + "close;";
        }
        failing(x, "close;rule 0;rule 0", 1, 7);
        Doc.terms("Only denial 8 has a cause: the denial of the failed command with its detail, or denial 9 with "
            + "detail 0 if the command failed with an exception other than UnsupportedOperationException.", 50);
        failing(x, "limit 10", 0, 7);
        failing(x, "limit 0", 0, 9);
        failing(x, "sell 1 1", 0, 9);
        Check.denied("no cause", x, 7, 10, () -> x.setThreshold(10));
        Doc.terms("The number, the detail and the cause of the latest denial are kept until the next denial.",
            48, 49, 50);
        failing(x, "close;seed 1024", 1, 9);
        Check.run(x, "close");
        Check.fails("another exception", Check.ARGUMENT, () -> x.setThreshold(100));
        Check.fails("a fault", Check.ARGUMENT, x::execute);
        Check.due("kept", "8 1 9", x.denial() + " " + x.denialDetail() + " " + x.denialCause());
        Check.denied("the next one", x, 5, 0, () -> x.pardon(0));
    }

    private static void texts() {
        Doc.terms("The text buffer holds at most 60 characters.", 43, 44);
        ThunderCartel x = Check.members(1);
        Check.due("sixty", 60, Check.feed(x, "close;close;close;close;close;close;close;close;close;seed 7"));
        Check.fails("sixty-one", Check.STATE, () -> x.feed('7'));
        Check.due("sixty are executed", 10, x.execute());
        Check.due("the last command", 7, x.setSeed(0));
        Doc.terms("A text matches this grammar, with terminals in double quotes; a space in a terminal is exactly "
            + "one space:", 44, 45);
        String[] commands = {"join 1 1", "assign 1", "rule 1", "sell 0 1", "audit 1", "close", "link 0-1", "cut 0-1",
            "pardon 0", "limit 1", "seed 1"};
        for (String command : commands) {
            int space = command.indexOf(' ');
            for (int at = 0; at <= command.length(); at++) {
                boolean isSecond = at < command.length() && command.charAt(at) == ' ';
                fault(command.substring(0, at) + ' ' + command.substring(at), isSecond ? at + 1 : at);
            }
            if (space > 0) {
                fault(command.replace(" ", ""), space);
                fault(command.replace(' ', '\t'), space);
                fault(command.replace(' ', (char) 0xA0), space);
            }
            fault(command + ';', command.length() + 1);
            fault(';' + command, 0);
            fault(command + ',' + command, command.length());
        }
        Doc.terms("The commands correspond to the methods addMember, assign, setRule, sell, audit, close, link, "
            + "unlink, pardon, setThreshold and setSeed, with the parameters in the same order.", 44);
        matched();
    }

    private static void matched() {
        // the shortest and the longest numbers, and zeros ahead
        ThunderCartel x = new ThunderCartel();
        Check.due("join", 3, Check.run(x, "join 1 20;join 99 1;join 09 02"));
        Check.due("capacities", "1 99 9", x.capacity(0) + " " + x.capacity(1) + " " + x.capacity(2));
        Check.due("votes", "20 1 2", x.votes(0) + " " + x.votes(1) + " " + x.votes(2));
        String[] totals = {"0", "300", "00", "0300", "7", "007", "0007"};
        for (String total : totals) {
            Check.run(x, "assign " + total);
            int sum = x.quota(0) + x.quota(1) + x.quota(2);
            Check.due("assign " + total, Integer.parseInt(total), sum);
        }
        Check.run(x, "assign 0;rule 1;limit 99;seed 1023");
        Check.due("rule, limit and seed", "1 99 1023", x.setRule(0) + " " + x.setThreshold(10) + " " + x.setSeed(9));
        Check.run(x, "limit 01;seed 0000;sell 1 99;sell 2 01");
        Check.due("limit and seed", "1 0", x.setThreshold(10) + " " + x.setSeed(0));
        Check.due("sell", "99 1", x.sales(1) + " " + x.sales(2));
        Check.run(x, "audit 3;audit 2;link 0-2;link 2-1;cut 2-0;close");
        Check.due("audit", "l w2", Check.standing(x, 0) + " " + Check.standing(x, 2));
        Check.due("link and cut", true, x.areLinked(1, 2) && !x.areLinked(0, 2));
        Check.due("close", 1, x.month());
        Check.run(x, "pardon 2");
        Check.due("pardon", "l", Check.standing(x, 2));
    }

    private static void fault(String text, int want) {
        ThunderCartel x = Check.members(2);
        Check.feed(x, text);
        Check.refused("'" + text + "'", Check.ARGUMENT, x, x::execute);
        Check.due("fault position of '" + text + "'", want, x.faultPosition());
    }

    private static void faults() {
        Doc.terms("The fault position of a text is the index of the first character that cannot continue any such "
            + "text, or the length of the text if it ends too early.", 45);
        fault("", 0);
        fault("z", 0);
        fault("zclose", 0);
        fault("close;", 6);
        fault("close;z", 6);
        fault("close;close;close;close;close;close;close;close;close;close;", 60);
        fault("close;close;close;close;close;close;close;close;close;clos", 58);
        fault("close;close;close;close;close;close;close;close;close;closez", 59);
        // a start that several commands have in common
        fault("s", 1);
        fault("sz", 1);
        fault("se", 2);
        fault("sez", 2);
        fault("seel", 3);
        fault("l", 1);
        fault("li", 2);
        fault("liz", 2);
        fault("c", 1);
        fault("cz", 1);
        fault("a", 1);
        fault("az", 1);
        // a digit more than a number, a long and a digit have
        fault("join 100 1", 7);
        fault("join 1 100", 9);
        fault("limit 100", 8);
        fault("assign 00001", 11);
        fault("seed 00001", 9);
        fault("rule 01", 6);
        fault("sell 00 1", 6);
        fault("audit 01", 7);
        fault("pardon 00", 8);
        fault("link 00-1", 6);
        fault("link 0-01", 8);
        fault("cut 00-1", 5);
        fault("cut 0-01", 7);
        // none at all, and the signs next to the digits
        fault("join ", 5);
        fault("assign ", 7);
        fault("assign ;", 7);
        fault("rule /", 5);
        fault("rule :", 5);
        fault("seed 1/", 6);
        fault("seed 1:", 6);
        fault("limit -1", 6);
    }

    private static void undo() {
        Doc.terms("The calls of the methods to which commands correspond, and of execute, that do not throw an "
            + "exception are the changes.", 51, 52);
        for (int i = 0; i < UndoBoundaries.CHANGES.length; i++) {
            ThunderCartel each = UndoBoundaries.some();
            each.saveSnapshot();
            each.restoreSnapshot();
            UndoBoundaries.CHANGES[i].make(each);
            Check.due("each kind of change, " + i, 1, each.undoCount());
        }
        ThunderCartel x = new ThunderCartel();
        x.setSeed(0);
        Check.due("one that changes nothing", 1, x.undoCount());
        Check.fails("a call that throws", Check.DENIED, () -> x.setRule(0));
        Check.due("is none", 1, x.undoCount());
        Check.feed(x, "close;rule 0");
        Check.fails("a text that throws", Check.DENIED, x::execute);
        Check.due("is none, nor are its commands", 1, x.undoCount());
        Check.run(x, "close;close;close;close;close;close;close;close;close;close");
        Check.due("a text with ten commands is one", 2, x.undoCount());
        x.undo();
        Check.due("and is undone at once", 0, x.month());
        Doc.terms("The latest 8 changes can be undone; older ones are forgotten.", 51, 52);
        for (int changes = 0; changes <= 20; changes++) {
            ThunderCartel y = new ThunderCartel();
            for (int i = 0; i < changes; i++) {
                y.close();
            }
            int least = Math.max(0, changes - 8);
            for (int month = changes - 1; month >= least; month--) {
                Check.due("left of " + changes, month - least, y.undo());
                Check.due("month after an undo of " + changes, month, y.month());
            }
            Check.fails("forgotten of " + changes, Check.STATE, y::undo);
            Check.due("the month stays", least, y.month());
        }
    }

    private static void untouched() {
        Doc.terms("The text buffer, the fault position, the output line and the latest denial are affected neither "
            + "by undo nor by snapshots.", 51, 53, 54);
        ThunderCartel x = Check.cartel(9, 1);
        x.saveSnapshot();
        Check.feed(x, "closer");
        Check.fails("fault", Check.ARGUMENT, x::execute);
        x.writeMember(0);
        Check.feed(x, "rule 0");
        Check.fails("denial", Check.DENIED, x::execute);
        Check.feed(x, "clos");
        x.undo();
        kept("undo", x);
        x.restoreSnapshot();
        kept("restore", x);
        Check.feed(x, "e;limit 100");
        Check.fails("another fault", Check.ARGUMENT, x::execute);
        x.restoreSnapshot();
        Check.due("a snapshot has no fault position", 14, x.faultPosition());
    }

    private static void kept(String what, ThunderCartel x) {
        Check.due("fault position after " + what, 5, x.faultPosition());
        Check.due("first of the line after " + what, '0', x.lineCharacter(0));
        Check.due("last of the line after " + what, '1', x.lineCharacter(8));
        Check.due("denial after " + what, "8 0 7", x.denial() + " " + x.denialDetail() + " " + x.denialCause());
        Check.feed(x, "e");
        Check.due("the text after " + what, 1, x.execute());
        Check.feed(x, "clos");
    }

    private static void exceptions() {
        Doc.terms("A method that throws an exception does not change the state, unless its documentation says "
            + "otherwise.", 2, 19, 44);
        ThunderCartel x = UndoBoundaries.some();
        Check.fails("seed", Check.ARGUMENT, () -> x.setSeed(1024));
        Check.fails("threshold", Check.ARGUMENT, () -> x.setThreshold(0));
        Check.fails("rule", Check.DENIED, () -> x.setRule(1));
        Check.fails("audit", Check.DENIED, () -> x.audit(4));
        Check.fails("total", Check.ARGUMENT, () -> x.assign(301));
        Check.fails("member", Check.INDEX, () -> x.pardon(3));
        Check.fails("sale", Check.DENIED, () -> x.sell(2, 1));
        Check.fails("link", Check.DENIED, () -> x.link(0, 1));
        Check.fails("cut", Check.DENIED, () -> x.unlink(1, 2));
        Check.fails("join", Check.ARGUMENT, () -> x.addMember(1, 21));
        Check.feed(x, "join 1 1;assign 9;rule 0;limit 5;seed 5;audit 4;close;rule 0");
        Check.fails("text", Check.DENIED, x::execute);
        Check.due("all of it", UndoBoundaries.all(UndoBoundaries.some()), UndoBoundaries.all(x));
        Doc.terms("If the conditions of several exceptions hold, the one that is documented first is thrown.",
            13, 15, 22);
        ThunderCartel full = Check.members(7);
        Check.fails("index before argument", Check.INDEX, () -> full.sell(7, 100));
        Check.fails("index before argument of a quota", Check.INDEX, () -> full.quotaBy(7, 301, 2));
        Check.fails("index before argument of a link", Check.INDEX, () -> full.link(7, 7));
        Check.fails("argument before denial", Check.ARGUMENT, () -> full.addMember(100, 1));
        Check.fails("argument before denial of a sale", Check.ARGUMENT, () -> full.sell(0, 100));
        Check.fails("argument before denial of an audit", Check.ARGUMENT, () -> new ThunderCartel().audit(8));
        Check.fails("argument before denial of a link", Check.ARGUMENT, () -> full.unlink(0, 0));
    }
}
