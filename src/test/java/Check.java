import java.nio.charset.StandardCharsets;

/** Counts what is not as due, and makes engines from texts. */
final class Check {
    interface Call {
        long answer();
    }

    private static int wrong;
    private static int asked;

    private Check() {
    }

    /** The answer that is due; another one, or an exception, is told. */
    static void due(String what, long want, Call call) {
        asked++;
        try {
            long got = call.answer();
            if (got != want) {
                tell(what + " answered " + got + ", due is " + want);
            }
        } catch (RuntimeException e) {
            tell(what + " threw " + e + ", due is " + want);
        }
    }

    static void due(String what, boolean want, boolean got) {
        due(what, want ? 1 : 0, () -> got ? 1 : 0);
    }

    /** Exactly this exception is due, no other one and no answer. */
    static void refused(String what, Class<? extends RuntimeException> want, Call call) {
        asked++;
        try {
            long got = call.answer();
            tell(what + " answered " + got + ", due is " + want.getSimpleName());
        } catch (RuntimeException e) {
            if (e.getClass() != want) {
                tell(what + " threw " + e + ", due is " + want.getSimpleName());
            }
        }
    }

    static void tell(String line) {
        wrong++;
        System.out.println(line);
    }

    /** Lays a text of bytes 0 to 255 on the tape, from its start on. */
    static void feed(NibbleEngine engine, String text) {
        byte[] bytes = text.getBytes(StandardCharsets.ISO_8859_1);
        for (int i = 0; i < bytes.length; i += 20) {
            int[] numbers = new int[5];
            for (int j = 0; j < 20; j++) {
                int sign = i + j < bytes.length ? bytes[i + j] & 255 : 0;
                numbers[j / 4] = numbers[j / 4] << 8 | sign;
            }
            engine.feed(numbers[0], numbers[1], numbers[2], numbers[3], numbers[4]);
        }
    }

    static int program(NibbleEngine engine, String text) {
        feed(engine, text);
        return engine.program(text.length());
    }

    /** An engine with a program that must have no fault. */
    static NibbleEngine told(String text) {
        NibbleEngine engine = new NibbleEngine();
        int kind = program(engine, text);
        if (kind != 0) {
            tell("the text " + text + " has a fault " + kind + " at " + engine.fault());
        }
        return engine;
    }

    /** The STORE of an engine from a place on, in hex. */
    static String bytes(NibbleEngine engine, int place, int length) {
        StringBuilder row = new StringBuilder();
        for (int i = 0; i < length; i++) {
            row.append(String.format("%02x", engine.at(place + i)));
        }
        return row.toString();
    }

    static void bytes(String what, String want, NibbleEngine engine, int place) {
        asked++;
        String got = bytes(engine, place, want.length() / 2);
        if (!got.equals(want)) {
            tell(what + ": from " + place + " on stands " + got + ", due is " + want);
        }
    }

    static void end(String test) {
        System.out.println(test + ": " + asked + " asked, " + wrong + " wrong");
        if (wrong != 0) {
            System.exit(1);
        }
    }
}
