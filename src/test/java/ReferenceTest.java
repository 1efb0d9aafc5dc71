import java.lang.reflect.InvocationTargetException;
import java.lang.reflect.Method;
import java.lang.reflect.Modifier;
import java.util.ArrayList;
import java.util.Comparator;
import java.util.HashMap;
import java.util.List;
import java.util.Map;

/** Long runs of calls, all promises mixed, against the reference; the runs are the same at each start. */
public final class ReferenceTest {
    private static final int RUNS = 1000;
    private static final int CALLS = 512;
    private static final int[] FAR = {-1, 7, 8, 100, 301, 1024, Integer.MAX_VALUE, Integer.MIN_VALUE};
    private static final String[] CHANGES = {"sell", "sell", "sell", "sell", "addMember", "assign", "assign",
        "audit", "audit", "close", "link", "link", "unlink", "pardon", "setRule", "setThreshold", "setSeed",
        "undo", "saveSnapshot", "restoreSnapshot"};

    // in some runs the totals are small and the audits many, so that members are warned and barred
    private static final String[] STRICT = {"sell", "sell", "sell", "addMember", "assign", "audit", "audit",
        "audit", "audit", "audit", "close", "close", "link", "unlink", "setRule", "setThreshold", "pardon",
        "undo", "saveSnapshot"};

    private static long state = 1;

    private ReferenceTest() {
    }

    /** A number from 0 to below the bound, from a fixed row of numbers. */
    private static int next(int bound) {
        state = state * 6364136223846793005L + 1442695040888963407L;
        return (int) ((state >>> 33) % bound);
    }

    public static void main(String[] args) {
        List<Method> face = new ArrayList<>();
        for (Method method : ThunderCartel.class.getDeclaredMethods()) {
            if (Modifier.isPublic(method.getModifiers())) {
                face.add(method);
            }
        }
        // the order of reflection is free: sorted, the runs stay the same
        face.sort(Comparator.comparing(Method::getName));
        Check.due("methods of the face", 53, face.size());
        Map<String, Method> byName = new HashMap<>();
        for (Method method : face) {
            byName.put(method.getName(), method);
        }
        for (int run = 0; run < RUNS; run++) {
            new Run(run, face, byName).go();
        }
        Check.end();
    }

    private static final class Run {
        private final int run;
        private final boolean isStrict;
        private final List<Method> face;
        private final Map<String, Method> byName;
        private final ThunderCartel cartel = new ThunderCartel();
        private final Reference reference = new Reference();
        private int calls = 0;

        Run(int run, List<Method> face, Map<String, Method> byName) {
            this.run = run;
            isStrict = run % 4 >= 2;
            this.face = face;
            this.byName = byName;
        }

        void go() {
            int members = run % 8;
            for (int i = 0; i < members; i++) {
                call("addMember", 1 + next(run % 3 == 0 ? 4 : 99), 1 + next(run % 5 == 0 ? 3 : 20), 0);
            }
            while (calls < CALLS) {
                int kind = next(100);
                if (kind < 35) {
                    some(isStrict ? STRICT[next(STRICT.length)] : CHANGES[next(CHANGES.length)]);
                } else if (kind < 38) {
                    text();
                } else if (kind < 40) {
                    line();
                } else {
                    String name = face.get(next(face.size())).getName();
                    // an execute or a feed of its own now and then only
                    some((name.equals("execute") || name.equals("feed")) && next(4) > 0 ? "sales" : name);
                }
            }
        }

        private int member() {
            return next(25) == 0 ? FAR[next(FAR.length)] : next(7);
        }

        private int value(int most) {
            return next(20) == 0 ? FAR[next(FAR.length)] : next(most + 2);
        }

        private void some(String name) {
            switch (name) {
                case "addMember":
                    call(name, value(99), value(20), 0);
                    break;
                case "sell":
                    call(name, member(), next(3) == 0 ? value(99) : 1 + next(12), 0);
                    break;
                case "assign":
                    call(name, isStrict ? next(20) : next(2) == 0 ? value(300) : next(60), 0, 0);
                    break;
                case "audit":
                    call(name, isStrict && next(4) > 0 ? members() : member(), 0, 0);
                    break;
                case "quotaBy":
                    call(name, member(), value(300), next(20) == 0 ? value(2) : next(2));
                    break;
                case "setSeed":
                    call(name, value(1023), 0, 0);
                    break;
                case "setThreshold":
                    call(name, next(2) == 0 ? value(99) : 1 + next(40), 0, 0);
                    break;
                case "setRule":
                    call(name, next(10) == 0 ? value(2) : next(2), 0, 0);
                    break;
                case "feed":
                    call(name, next(2) == 0 ? next(128) : next(65536), 0, 0);
                    break;
                case "lineCharacter":
                    call(name, value(16), 0, 0);
                    break;
                default:
                    call(name, member(), member(), 0);
            }
        }

        private void line() {
            call("writeMember", next(7), 0, 0);
            for (int i = 0; i < 16; i++) {
                call("lineCharacter", i, 0, 0);
            }
        }

        private void text() {
            StringBuilder text = new StringBuilder();
            int commands = 1 + next(5);
            for (int i = 0; i < commands; i++) {
                text.append(i == 0 ? "" : ";").append(command());
            }
            if (next(3) == 0 && text.length() > 0) {
                int at = next(text.length());
                String sign = "" + "0123456789 ;-ajrsclpx".charAt(next(21));
                text.replace(at, at + next(2), sign);
            }
            if (next(6) == 0) {
                text.setLength(next(text.length() + 1));
            }
            for (char character : text.toString().toCharArray()) {
                call("feed", character, 0, 0);
            }
            call("execute", 0, 0, 0);
            call("faultPosition", 0, 0, 0);
            call("denial", 0, 0, 0);
            call("denialDetail", 0, 0, 0);
            call("denialCause", 0, 0, 0);
        }

        private int members() {
            // the reference is asked, for each call of the cartel counts
            return (Integer) reference.call("memberCount", 0, 0, 0);
        }

        private String digit() {
            return "" + (next(12) == 0 ? next(10) : next(Math.max(1, members())));
        }

        private String command() {
            switch (next(11)) {
                case 0: return "join " + next(100) + " " + (next(8) == 0 ? next(100) : 1 + next(20));
                case 1: return "assign " + (next(8) == 0 ? next(10000) : next(301));
                case 2: return "rule " + (next(8) == 0 ? next(10) : next(2));
                case 3: return "audit " + digit();
                case 4: return "close";
                case 5: return "link " + digit() + "-" + digit();
                case 6: return "cut " + digit() + "-" + digit();
                case 7: return "pardon " + digit();
                case 8: return "limit " + (next(2) == 0 ? "0" : "") + next(10);
                case 9: return "seed " + (next(8) == 0 ? next(10000) : next(1024));
                default: return "sell " + digit() + " " + (next(3) == 0 ? next(100) : 1 + next(9));
            }
        }

        private void call(String name, int a, int b, int c) {
            if (calls >= CALLS) {
                return;
            }
            calls++;
            Object want;
            try {
                want = reference.call(name, a, b, c);
            } catch (RuntimeException thrown) {
                want = thrown.getClass();
            }
            Object got = answer(byName.get(name), a, b, c);
            Check.due("run " + run + ", call " + calls + ": " + name + "(" + a + ", " + b + ", " + c + ")", want, got);
        }

        private Object answer(Method method, int a, int b, int c) {
            Object[] all = {a, b, c};
            Object[] given = new Object[method.getParameterCount()];
            for (int i = 0; i < given.length; i++) {
                given[i] = method.getParameterTypes()[i] == char.class ? (Object) (char) a : all[i];
            }
            try {
                return method.invoke(cartel, given);
            } catch (InvocationTargetException thrown) {
                return thrown.getCause().getClass();
            } catch (IllegalAccessException thrown) {
                return thrown;
            }
        }
    }
}
