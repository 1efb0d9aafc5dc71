/** Promises 43 to 50, sentence by sentence. */
final class TextsBoundaries {
    private static final int LEAST = Integer.MIN_VALUE;
    private static final int MOST = Integer.MAX_VALUE;
    private static final String NINE_CLOSES = "close;close;close;close;close;close;close;close;close;";

    private TextsBoundaries() {
    }

    static void run() {
        feed();
        allOrNone();
        bufferIsEmpty();
        executeRefused();
        faultPosition();
        writeMember();
        lineCharacter();
        denial();
        denialDetail();
        denialCause();
    }

    private static void feed() {
        Doc.says(43, "- `character`: any character");
        for (int sign = 0; sign <= 0xFFFF; sign += 60) {
            ThunderCartel x = new ThunderCartel();
            for (int i = 0; i < 60 && sign + i <= 0xFFFF; i++) {
                char character = (char) (sign + i);
                Check.due("the sign " + (sign + i), i + 1, x.feed(character));
            }
        }
        Doc.says(43, "Returns the length of the buffer afterwards.");
        ThunderCartel x = new ThunderCartel();
        for (int i = 1; i <= 60; i++) {
            Check.due("one to sixty", i, x.feed('c'));
        }
        Doc.says(43, "Throws `IllegalStateException` if the buffer has 60 characters");
        for (char sign : new char[] {'c', ';', (char) 0, (char) 0xFFFF}) {
            Check.refused("the sixty-first", Check.STATE, x, () -> x.feed(sign));
        }
        ThunderCartel y = Check.members(1);
        Check.due("a full text", 60, Check.feed(y, NINE_CLOSES + "rule 1"));
        Check.fails("a digit more", Check.STATE, () -> y.feed('1'));
        Check.due("the full text is as it was", 10, y.execute());
        Check.due("nine closes", 9, y.month());
        Check.due("the buffer is empty", 1, y.feed('c'));
    }

    private static void allOrNone() {
        Doc.says(44, "Parses the text buffer and executes its commands in their order, either all of them or none.");
        ThunderCartel x = Check.cartel(9, 1);
        Check.due("one command", 1, Check.run(x, "close"));
        Check.due("ten commands", 10, Check.run(x, NINE_CLOSES + "close"));
        Check.due("eleven months", 11, x.month());
        Check.due("three commands", 3, Check.run(x, "sell 0 9;audit 1;assign 9"));
        Check.due("in their order: no excess is left now", "w1 0", Check.standing(x, 0) + " " + x.excess(0));
        ThunderCartel none = Check.cartel(9, 1);
        none.sell(0, 5);
        Check.feed(none, "sell 0 1;sell 0 3;sell 0 1");
        Check.refused("the last one fails, so none is executed", Check.DENIED, none, none::execute);
        Check.feed(none, "join 1 1;close;audit 1;assign 300;seed 1;rule 0");
        Check.refused("the last of six", Check.DENIED, none, none::execute);
        Check.due("rule", 0, none.setRule(1));
        Check.feed(none, "sell 0 1;sell 0 1;x");
        Check.refused("a text that does not match", Check.ARGUMENT, none, none::execute);
    }

    private static void bufferIsEmpty() {
        Doc.says(44, "The buffer is empty afterwards, even if an exception is thrown.");
        ThunderCartel x = new ThunderCartel();
        Check.run(x, "close");
        Check.due("executed", 1, x.feed('q'));
        Check.fails("does not match", Check.ARGUMENT, x::execute);
        Check.due("after the fault", 1, x.feed('r'));
        Check.feed(x, "ule 0");
        Check.fails("denied", Check.DENIED, x::execute);
        Check.due("after the denial", 1, x.feed('a'));
        Check.feed(x, "ssign 9999");
        Check.fails("denied for a wrong argument", Check.DENIED, x::execute);
        Check.due("after that", 60, Check.feed(x, NINE_CLOSES + "rule 9"));
        Check.fails("denied at the end", Check.DENIED, x::execute);
        Check.due("the full text is gone", 60, Check.feed(x, NINE_CLOSES + "close;"));
        Check.fails("sixty signs without an end", Check.ARGUMENT, x::execute);
        Check.due("none was executed", 1, x.month());
        Check.due("the full text is gone again", 1, x.feed('c'));
    }

    private static void executeRefused() {
        Doc.says(44, "Throws `IllegalArgumentException` if the buffer does not match the grammar; the fault position "
            + "is kept");
        ThunderCartel x = Check.members(1);
        Check.refused("empty", Check.ARGUMENT, x, x::execute);
        Check.due("at the start", 0, x.faultPosition());
        Check.feed(x, NINE_CLOSES + "close;");
        Check.refused("full", Check.ARGUMENT, x, x::execute);
        Check.due("at the end", 60, x.faultPosition());
        Check.feed(x, NINE_CLOSES + "closer");
        Check.refused("the last sign", Check.ARGUMENT, x, x::execute);
        Check.due("at the last sign", 59, x.faultPosition());
        Check.feed(x, "rule 0;rule 0;rule 0:");
        Check.refused("a fault before a denial", Check.ARGUMENT, x, x::execute);
        Check.fails("nothing was denied", Check.ELEMENT, x::denial);
        Doc.says(44, "Throws `UnsupportedOperationException` if denied: 8");
        Check.feed(x, "rule 0");
        Check.refused("the first command", Check.DENIED, x, x::execute);
        Check.due("8", 8, x.denial());
        Check.due("the first", 0, x.denialDetail());
        Check.feed(x, NINE_CLOSES + "rule 0");
        Check.refused("the tenth command", Check.DENIED, x, x::execute);
        Check.due("the tenth", 9, x.denialDetail());
        Check.due("the fault position is not touched", 20, x.faultPosition());
    }

    private static void faultPosition() {
        Doc.says(45, "Returns the fault position that was kept last.");
        ThunderCartel x = new ThunderCartel();
        for (int length = 0; length < 5; length++) {
            Check.feed(x, "close".substring(0, length));
            Check.fails("too short", Check.ARGUMENT, x::execute);
            Check.due("the length", length, x.faultPosition());
        }
        Check.run(x, "close");
        Check.due("a text that matches keeps none", 4, x.faultPosition());
        Doc.says(45, "Throws `NoSuchElementException` if none was kept yet");
        ThunderCartel y = new ThunderCartel();
        Check.refused("new", Check.ELEMENT, y, y::faultPosition);
        Check.feed(y, "x");
        Check.refused("not executed", Check.ELEMENT, y, y::faultPosition);
        Check.fails("executed", Check.ARGUMENT, y::execute);
        Check.due("kept", 0, y.faultPosition());
        ThunderCartel z = new ThunderCartel();
        Check.run(z, "close");
        Check.refused("a text that matches", Check.ELEMENT, z, z::faultPosition);
        Check.feed(z, "rule 0");
        Check.fails("denied", Check.DENIED, z::execute);
        Check.refused("a text that is denied", Check.ELEMENT, z, z::faultPosition);
    }

    private static void writeMember() {
        Doc.says(46, "Writes a member as the output line, which replaces the previous one: the index, \":\" and its "
            + "sales, \"/\" and its quota, \"/\" and its capacity, \"v\" and its votes, then \"!\" for each warning, "
            + "and \"x\" for each month for which it is barred.");
        Check.due("shortest", "0:0/0/1v1", Check.line(Check.cartel(1, 1), 0));
        ThunderCartel x = Check.cartel(99, 1, 99, 1, 99, 1, 99, 1, 99, 1, 99, 1, 99, 20);
        for (int i = 0; i < 6; i++) {
            x.sell(i, 1);
        }
        Check.barAll(x);
        x.sell(6, 99);
        x.audit(7);
        Check.due("one warning", "6:99/0/99v20!", Check.line(x, 6));
        x.audit(7);
        x.assign(300);
        Check.due("longest", "6:99/300/99v20!!", Check.line(x, 6));
        Check.due("shorter than the one before", "0:1/0/99v1xx", Check.line(x, 0));
        Check.fails("no more than the shorter one", Check.INDEX, () -> x.lineCharacter(12));
        x.assign(0);
        x.close();
        x.close();
        Check.due("one month", "0:0/0/99v1x", Check.line(x, 0));
        Doc.says(46, "Example: \"2:30/25/40v7!!\".");
        ThunderCartel y = Check.cartel(9, 1, 9, 1, 40, 7);
        y.sell(2, 30);
        y.audit(3);
        y.audit(3);
        y.assign(36);
        Check.due("with the quota 25", 25, y.quota(2));
        Check.due("the example", "2:30/25/40v7!!", Check.line(y, 2));
        Doc.says(46, "Returns the length of the line.");
        Check.due("shortest", 9, Check.cartel(1, 1).writeMember(0));
        Check.due("the example", 14, y.writeMember(2));
        Doc.says(46, "Throws `IndexOutOfBoundsException` if there is no such member");
        Check.noMember("member", ThunderCartel::writeMember);
        Check.fails("the line is as it was", Check.INDEX, () -> y.writeMember(3));
        Check.due("its first", '2', y.lineCharacter(0));
        Check.due("its last", '!', y.lineCharacter(13));
    }

    private static void lineCharacter() {
        Doc.says(47, "Returns a character of the output line, which is initially empty.");
        for (int index : new int[] {0, 1, -1, LEAST, MOST}) {
            ThunderCartel x = Check.cartel(1, 1);
            Check.refused("empty " + index, Check.INDEX, x, () -> x.lineCharacter(index));
        }
        Doc.says(47, "- `index`: the index, from 0");
        ThunderCartel x = Check.cartel(1, 1, 99, 20);
        x.writeMember(1);
        Check.due("first", '1', x.lineCharacter(0));
        Check.due("last", '0', x.lineCharacter(10));
        Doc.says(47, "Throws `IndexOutOfBoundsException` if there is no such index");
        for (int index : new int[] {11, -1, LEAST, MOST}) {
            Check.fails("index " + index, Check.INDEX, () -> x.lineCharacter(index));
        }
        x.writeMember(0);
        Check.fails("behind the shorter line", Check.INDEX, () -> x.lineCharacter(9));
        Check.due("the end of the shorter line", '1', x.lineCharacter(8));
    }

    private static void denial() {
        Doc.says(48, "Returns the number, 1 to 8.");
        ThunderCartel x = Check.members(7);
        Check.denied("1", x, 1, 7, () -> x.addMember(1, 1));
        ThunderCartel y = Check.cartel(9, 1, 9, 1);
        Check.denied("3", y, 3, 9, () -> y.sell(1, 10));
        Check.denied("4", y, 4, 0, () -> y.unlink(0, 1));
        Check.denied("5", y, 5, 1, () -> y.pardon(1));
        Check.denied("6", y, 6, 2, () -> y.audit(3));
        Check.denied("7", y, 7, 0, () -> y.setRule(0));
        y.sell(0, 1);
        Check.barAll(y);
        Check.denied("2", y, 2, 2, () -> y.sell(0, 1));
        Check.feed(y, "rule 0");
        Check.refused("8", Check.DENIED, y, y::execute);
        Check.due("8", 8, y.denial());
        Doc.says(48, "Throws `NoSuchElementException` if nothing was denied yet");
        nothingDenied("denial", ThunderCartel::denial);
    }

    private static void denialDetail() {
        Doc.says(49, "Returns the detail of the latest denial.");
        ThunderCartel x = Check.cartel(9, 1);
        Check.denied("the latest", x, 3, 9, () -> x.sell(0, 10));
        Check.denied("is another one now", x, 7, 0, () -> x.setRule(0));
        Doc.says(49, "Throws `NoSuchElementException` if nothing was denied yet");
        nothingDenied("detail", ThunderCartel::denialDetail);
    }

    private interface Look {
        Object at(ThunderCartel cartel);
    }

    /** Neither a new object nor calls that throw another exception have a denial. */
    private static void nothingDenied(String what, Look look) {
        ThunderCartel x = new ThunderCartel();
        Check.refused(what + ", new", Check.ELEMENT, x, () -> look.at(x));
        Check.fails("a wrong argument", Check.ARGUMENT, () -> x.setRule(2));
        Check.fails("no member", Check.INDEX, () -> x.pardon(0));
        Check.fails("a fault", Check.ARGUMENT, x::execute);
        Check.fails("no undo", Check.STATE, x::undo);
        Check.refused(what + ", after other exceptions", Check.ELEMENT, x, () -> look.at(x));
    }

    private static void cause(ThunderCartel x, int want, String text) {
        Check.feed(x, text);
        Check.refused(text, Check.DENIED, x, x::execute);
        Check.due("cause of " + text, want, x.denialCause());
    }

    private static void denialCause() {
        Doc.says(50, "Returns the number, 1 to 7 or 9.");
        ThunderCartel x = Check.cartel(9, 1, 9, 1);
        cause(x, 1, "join 1 1;join 1 1;join 1 1;join 1 1;join 1 1;join 1 1");
        cause(x, 2, "sell 0 1;audit 2;audit 2;audit 2;sell 0 1");
        cause(x, 3, "sell 0 10");
        cause(x, 4, "cut 0-1");
        cause(x, 5, "pardon 0");
        ThunderCartel y = Check.cartel(9, 1, 9, 1);
        cause(y, 6, "audit 3");
        cause(y, 7, "limit 10");
        cause(y, 9, "limit 0");
        cause(y, 9, "pardon 2");
        Doc.says(50, "Throws `NoSuchElementException` if nothing was denied yet, or the latest denial has no cause");
        nothingDenied("cause", ThunderCartel::denialCause);
        Check.denied("a denial without a cause after one with it", y, 7, 10, () -> y.setThreshold(10));
        cause(y, 7, "rule 0");
        Check.fails("a fault is no denial", Check.ARGUMENT, y::execute);
        Check.due("so the cause is kept", 7, y.denialCause());
    }
}
