import java.util.Objects;

/** What the tests of this project share: comparing answers, feeding texts, and the end of a test. */
final class Check {
    interface Call {
        Object answer();
    }

    static final Class<? extends RuntimeException> INDEX = IndexOutOfBoundsException.class;
    static final Class<? extends RuntimeException> ARGUMENT = IllegalArgumentException.class;
    static final Class<? extends RuntimeException> DENIED = UnsupportedOperationException.class;
    static final Class<? extends RuntimeException> ELEMENT = java.util.NoSuchElementException.class;
    static final Class<? extends RuntimeException> STATE = IllegalStateException.class;
    static final Class<? extends RuntimeException> ARITHMETIC = ArithmeticException.class;

    private static int done = 0;
    private static int wrong = 0;

    private Check() {
    }

    static void due(String what, Object want, Object got) {
        done++;
        if (!Objects.equals(want, got)) {
            wrong++;
            System.out.println(what + " answered " + got + ", due is " + want);
        }
    }

    static void fails(String what, Class<? extends RuntimeException> want, Call call) {
        done++;
        Object got;
        try {
            got = call.answer();
        } catch (RuntimeException thrown) {
            got = thrown.getClass();
        }
        if (got != want) {
            wrong++;
            System.out.println(what + " answered " + got + ", due is " + want);
        }
    }

    /** The call is denied, and the latest denial has this number and detail and no cause. */
    static void denied(String what, ThunderCartel cartel, int number, int detail, Call call) {
        fails(what, DENIED, call);
        due(what + ": denial", number, cartel.denial());
        due(what + ": detail", detail, cartel.denialDetail());
        fails(what + ": cause", ELEMENT, () -> cartel.denialCause());
    }

    static int feed(ThunderCartel cartel, String text) {
        int length = -1;
        for (char character : text.toCharArray()) {
            length = cartel.feed(character);
        }
        return length;
    }

    static int run(ThunderCartel cartel, String text) {
        feed(cartel, text);
        return cartel.execute();
    }

    static String line(ThunderCartel cartel, int member) {
        int length = cartel.writeMember(member);
        StringBuilder line = new StringBuilder();
        for (int i = 0; i < length; i++) {
            line.append(cartel.lineCharacter(i));
        }
        return line.toString();
    }

    /** Members as pairs of a capacity and votes. */
    static ThunderCartel cartel(int... pairs) {
        ThunderCartel cartel = new ThunderCartel();
        for (int i = 0; i + 1 < pairs.length; i += 2) {
            cartel.addMember(pairs[i], pairs[i + 1]);
        }
        return cartel;
    }

    /** Makes a member with an excess barred for 2 months; with count all of the members. */
    static void barAll(ThunderCartel cartel) {
        for (int i = 0; i < 3; i++) {
            cartel.audit(cartel.memberCount());
        }
    }

    static void end() {
        System.out.println(wrong == 0 ? done + " answers are as due" : wrong + " of " + done + " are wrong");
        if (wrong != 0 || done == 0) {
            System.exit(1);
        }
    }
}
