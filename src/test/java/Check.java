import java.util.Objects;

/** What the tests of this project share: comparing answers, feeding texts, and the end of a test. */
final class Check {
    interface Call {
        Object answer();
    }

    interface CallOf {
        Object answer(ThunderCartel cartel);
    }

    interface CallOfMember {
        Object answer(ThunderCartel cartel, int member);
    }

    static final Class<? extends RuntimeException> INDEX = IndexOutOfBoundsException.class;
    static final Class<? extends RuntimeException> ARGUMENT = IllegalArgumentException.class;
    static final Class<? extends RuntimeException> DENIED = UnsupportedOperationException.class;
    static final Class<? extends RuntimeException> ELEMENT = java.util.NoSuchElementException.class;
    static final Class<? extends RuntimeException> STATE = IllegalStateException.class;
    static final Class<? extends RuntimeException> ARITHMETIC = ArithmeticException.class;

    private static final int[] FAR = {-1, 7, 32, Integer.MAX_VALUE, Integer.MIN_VALUE};

    // what the checks stand for, told ahead of a wrong one
    private static String test = "";
    private static int done = 0;
    private static int wrong = 0;

    private Check() {
    }

    static int done() {
        return done;
    }

    /** The checks that follow stand for this. */
    static void begin(String sentence) {
        test = sentence.isEmpty() ? "" : sentence + "\n    ";
    }

    static void due(String what, Object want, Object got) {
        done++;
        if (!Objects.equals(want, got)) {
            wrong++;
            System.out.println(test + what + " answered " + got + ", due is " + want);
        }
    }

    static void fails(String what, Class<? extends RuntimeException> want, Call call) {
        Object got;
        try {
            got = call.answer();
        } catch (RuntimeException thrown) {
            got = thrown.getClass();
        }
        due(what, want, got);
    }

    /** The call throws this, and all that the face tells of the state is as before. */
    static void refused(String what, Class<? extends RuntimeException> want, ThunderCartel cartel, Call call) {
        String before = look(cartel) + " " + cartel.undoCount();
        fails(what, want, call);
        due(what + ": the state", before, look(cartel) + " " + cartel.undoCount());
    }

    /** Without members, with one and with seven: each index that is no member's is refused. */
    static void noMember(String what, CallOfMember call) {
        for (int count : new int[] {0, 1, 7}) {
            for (int i = 0; i <= FAR.length; i++) {
                int member = i < FAR.length ? FAR[i] : count;
                ThunderCartel cartel = members(count);
                refused(what + " " + member + " of " + count, INDEX, cartel, () -> call.answer(cartel, member));
            }
        }
    }

    /** The call is denied, and the latest denial has this number and detail and no cause. */
    static void denied(String what, ThunderCartel cartel, int number, int detail, Call call) {
        refused(what, DENIED, cartel, call);
        due(what + ": denial", number, cartel.denial());
        due(what + ": detail", detail, cartel.denialDetail());
        fails(what + ": cause", ELEMENT, () -> cartel.denialCause());
    }

    static int feed(ThunderCartel cartel, String text) {
        int length = -1;
        for (char character : text.toCharArray()) {
            length = cartel.feed(character);
        }
        return length;
    }

    static int run(ThunderCartel cartel, String text) {
        feed(cartel, text);
        return cartel.execute();
    }

    static String line(ThunderCartel cartel, int member) {
        int length = cartel.writeMember(member);
        StringBuilder line = new StringBuilder();
        for (int i = 0; i < length; i++) {
            line.append(cartel.lineCharacter(i));
        }
        return line.toString();
    }

    /** Members as pairs of a capacity and votes. */
    static ThunderCartel cartel(int... pairs) {
        ThunderCartel cartel = new ThunderCartel();
        for (int i = 0; i + 1 < pairs.length; i += 2) {
            cartel.addMember(pairs[i], pairs[i + 1]);
        }
        return cartel;
    }

    /** So many members of capacity 99 with 1 vote each. */
    static ThunderCartel members(int count) {
        ThunderCartel cartel = new ThunderCartel();
        for (int i = 0; i < count; i++) {
            cartel.addMember(99, 1);
        }
        return cartel;
    }

    /** What the face tells of the state without a change; some 80 calls for seven members. */
    static String look(ThunderCartel cartel) {
        StringBuilder look = new StringBuilder();
        int links = cartel.linkCount();
        for (int i = 0; i < cartel.memberCount(); i++) {
            look.append(cartel.sales(i)).append('/').append(cartel.quota(i)).append('/');
            look.append(cartel.capacity(i)).append('v').append(cartel.votes(i)).append(standing(cartel, i));
            for (int j = 0; links > 0 && j < i; j++) {
                look.append(cartel.areLinked(i, j) ? '-' : '.');
            }
            look.append(cartel.drawnMember(i)).append(' ');
        }
        look.append(cartel.winningCoalitions()).append(' ').append(cartel.month()).append(' ');
        look.append(cartel.soldTotal()).append(' ').append(cartel.finedTotal()).append(' ').append(links);
        return look.toString();
    }

    /** The sign of the standing, with the warnings or the months. */
    static String standing(ThunderCartel cartel, int member) {
        char sign = cartel.standing(member);
        if (sign == 'w') {
            return "w" + cartel.warnings(member);
        }
        return sign == 'b' ? "b" + cartel.barredMonths(member) : "" + sign;
    }

    /** Makes a member with an excess barred for 2 months; with count all of the members. */
    static void barAll(ThunderCartel cartel) {
        for (int i = 0; i < 3; i++) {
            cartel.audit(cartel.memberCount());
        }
    }

    static void end() {
        System.out.println(wrong == 0 ? done + " answers are as due" : wrong + " of " + done + " are wrong");
        if (wrong != 0 || done == 0) {
            System.exit(1);
        }
    }
}
