import java.lang.reflect.Method;
import java.util.ArrayList;
import java.util.List;
import java.util.Random;

/** Objects have nothing in common, and the same calls give the same answers each time. */
public final class ObjectsApart {
    private static final int OBJECTS = 4;
    private static final int CALLS = 512;
    private static final int ROUNDS = 12;
    private static final int[] PLACES = {13, 14, 15, 16, 25, 26, 27, 28};
    private static final int BELL = 15;
    // Each call and the sorts of the numbers that it takes.
    private static final String[] FORMS = {
        "put ckai", "put ckai", "raze c", "cords cscs", "ball c", "start csi", "noStarts", "row sin", "set siv", "copy ssiii",
        "element si", "holds s", "puts s", "keep s", "load s", "at cw", "run", "run", "run", "ran w", "strike iw", "strike iw",
        "ended cw", "ended cw", "why ei", "met et", "fragile et", "fragile et", "weak i", "weak i", "fits cet", "fits cet",
        "fit i", "fit i", "fewest et", "fewest et", "fewestPiece i", "fewestPiece i", "tune s", "status w",
    };
    // Now and then the plan is laid anew, so that a bell is there to be rung.
    private static final String[] LAY = {
        "raze e", "put e8ii", "noStarts", "start csi", "start csi", "start csi", "start csi", "raze c", "put ckai", "put ckai",
    };
    private static final int LAY_EACH = 40;

    private static int wrong = 0;

    private static final class Call {
        final Method method;
        final Object[] given;

        Call(Method method, Object[] given) {
            this.method = method;
            this.given = given;
        }

        Object on(FallChain x) throws ReflectiveOperationException {
            return method.invoke(x, given);
        }
    }

    /** A number of the sort that the sign tells: few numbers of each sort, so that what is laid and asked for meets. */
    private static int number(char sign, Random random) {
        int small = random.nextInt(6);
        switch (sign) {
            case 'c': return PLACES[random.nextInt(PLACES.length)] + (random.nextInt(30) == 0 ? 90 : 0);
            case 'e': return BELL;
            case '8': return 8;
            case 'k': return new int[] {1, 1, 1, 2, 2, 4, 5, 6, 7, 8, 8, 9}[random.nextInt(12)];
            case 's': return random.nextInt(4);
            case 'a': return random.nextInt(random.nextInt(3) == 0 ? 13 : 2);
            case 't': return random.nextInt(2) == 0 ? -1 : small;
            case 'n': return 4 * random.nextInt(4) + (random.nextInt(9) == 0 ? 1 : 0);
            case 'w': return random.nextInt(8) == 0 ? 11 + small : small;
            default: return small;
        }
    }

    private static Call call(String form, Random random) throws ReflectiveOperationException {
        String name = form.substring(0, form.indexOf(' ') < 0 ? form.length() : form.indexOf(' '));
        String signs = form.substring(name.length()).trim();
        Class<?>[] types = new Class<?>[signs.length()];
        Object[] given = new Object[signs.length()];
        for (int i = 0; i < given.length; i++) {
            boolean whole = signs.charAt(i) == 'v';
            types[i] = whole ? long.class : int.class;
            given[i] = whole ? (Object) random.nextLong() : (Object) number(signs.charAt(i), random);
        }
        return new Call(FallChain.class.getMethod(name, types), given);
    }

    private static List<Call> calls(int seed) throws ReflectiveOperationException {
        Random random = new Random(seed);
        List<Call> calls = new ArrayList<>();
        for (int i = 0; i < CALLS; i++) {
            int turn = i % LAY_EACH;
            calls.add(call(turn < LAY.length ? LAY[turn] : FORMS[random.nextInt(FORMS.length)], random));
        }
        return calls;
    }

    private static List<Object> alone(List<Call> calls) throws ReflectiveOperationException {
        FallChain x = new FallChain();
        List<Object> answers = new ArrayList<>();
        for (Call call : calls) {
            answers.add(call.on(x));
        }
        return answers;
    }

    private static void inTurn(int round) throws ReflectiveOperationException {
        List<List<Call>> calls = new ArrayList<>();
        List<List<Object>> due = new ArrayList<>();
        List<FallChain> objects = new ArrayList<>();
        for (int k = 0; k < OBJECTS; k++) {
            calls.add(calls(OBJECTS * round + k));
            due.add(alone(calls.get(k)));
            objects.add(new FallChain());
        }
        for (int i = 0; i < CALLS; i++) {
            for (int k = 0; k < OBJECTS; k++) {
                Call call = calls.get(k).get(i);
                Object got = call.on(objects.get(k));
                if (!got.equals(due.get(k).get(i)) && wrong < 20) {
                    wrong++;
                    System.out.println("round " + round + ", object " + k + ", call " + i + ", " + call.method.getName()
                        + " answered " + got + ", alone " + due.get(k).get(i));
                }
            }
        }
    }

    /** A run of one object, and wishes of another, stay what they were while a third one is used. */
    private static void whatOneIsAskedForStays() {
        FallChain x = new FallChain();
        x.put(13, 1, 1, 0);
        x.put(15, 8, 0, 0);
        x.start(13, 3, 0);
        x.run();
        x.row(0, 3, 1);
        x.fragile(15, -1);
        x.fits(14, 15, 3);
        x.fewest(15, 2);
        FallChain y = new FallChain();
        y.put(40, 2, 1, 0);
        y.put(41, 2, 3, 0);
        y.start(40, 3, 0);
        y.start(41, 1, 0);
        y.run();
        y.keep(0);
        y.fragile(41, -1);
        y.fits(42, 41, -1);
        y.fewest(41, -1);
        y.put(-1, 0, 0, 0);
        long[][] due = {
            {x.ran(1), 2}, {x.ran(2), 2}, {x.strike(1, 1), 15}, {x.ended(15, 0), 2}, {x.why(15, 1), 1}, {x.weak(0), 104},
            {x.weak(3), 107}, {x.fit(0), 2010}, {x.fit(3), 6011}, {x.fit(4), -1}, {x.holds(0), 103}, {x.status(0), 2},
            {x.status(2), 1}, {x.status(4), 1}, {x.status(11), 0}, {y.ran(1), 1}, {y.ran(2), 4}, {y.status(11), 1},
            {y.holds(0), 0},
        };
        for (int i = 0; i < due.length; i++) {
            if (due[i][0] != due[i][1]) {
                wrong++;
                System.out.println("question " + i + " answered " + due[i][0] + ", due is " + due[i][1]);
            }
        }
    }

    public static void main(String[] args) throws ReflectiveOperationException {
        whatOneIsAskedForStays();
        for (int round = 0; round < ROUNDS; round++) {
            inTurn(round);
        }
        System.out.println(wrong == 0 ? "all answers are as due" : wrong + " answers are not as due");
        if (wrong != 0) {
            System.exit(1);
        }
    }
}
