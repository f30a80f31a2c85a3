import java.util.NoSuchElementException;

/** Tests of single sentences: each answer is told with the part and the sentence that it belongs to. */
final class Edge {
    /** What is done with an object; an exception is an answer, too. */
    interface Act {
        void on(NibbleEngine engine);
    }

    private static final Act NOTHING = x -> { };

    private static String sentence = "";
    private static String untouched;
    private static int[] untouchedStatus;

    private Edge() {
    }

    /** What is asked from here on would be answered otherwise, if this sentence of that part were broken. */
    static void says(String part, String quote) {
        sentence = part + ", '" + quote + "': ";
    }

    static void due(String what, long want, Check.Call call) {
        Check.due(sentence + what, want, call);
    }

    static void due(String what, boolean want, boolean got) {
        Check.due(sentence + what, want, got);
    }

    static void bytes(String what, String want, NibbleEngine engine, int place) {
        Check.bytes(sentence + what, want, engine, place);
    }

    static void none(String what, Check.Call call) {
        Check.refused(sentence + what, NoSuchElementException.class, call);
    }

    static void illegal(String what, Check.Call call) {
        Check.refused(sentence + what, IllegalArgumentException.class, call);
    }

    static void arithmetic(String what, Check.Call call) {
        Check.refused(sentence + what, ArithmeticException.class, call);
    }

    /** A TEXT without a FAULT. */
    static NibbleEngine good(String text) {
        NibbleEngine x = new NibbleEngine();
        due("'" + text + "'", 0, () -> Check.program(x, text));
        due("no place in '" + text + "'", NibbleEngine.NONE, () -> x.fault());
        return x;
    }

    /** A TEXT with a FAULT at a place. */
    static void fault(String text, int kind, int place) {
        NibbleEngine x = new NibbleEngine();
        due("the FAULT of '" + text + "'", kind, () -> Check.program(x, text));
        due("its place in '" + text + "'", place, () -> x.fault());
    }

    /** An object in whose every corner something is: ACTS, NOTED, an image, FAULTS, STATUS, bytes of the tape. */
    static NibbleEngine lively() {
        NibbleEngine x = new NibbleEngine();
        Check.program(x, "at 0 packed 5 in 2;at 8 #ab;guard 1 g;a:add 0:2 0:2;plus %1 7;test 250:7;halt;"
                + "g:load %2 9;on 15 a;");
        x.steps(6);
        x.lay(20, 3);
        x.set(5, -5);
        x.note(1, 0, 0x01);
        x.image();
        x.lay(21, 4);
        x.note(2, 9, 9);
        x.next(3);
        x.steps(1);
        x.lay(256, 0);
        x.note(61, 0, 0);
        x.set(8, 0);
        Check.program(x, "halt;at 0 #0;");
        Check.feed(x, "halt;back;");
        return x;
    }

    /** A call leaves all as it is but one number of STATUS (0 to 2), which is one more; NONE: none is. */
    static void leaves(String what, int status, Act refused) {
        if (untouched == null) {
            NibbleEngine other = lively();
            untouchedStatus = status(other);
            untouched = everything(other);
        }
        compare(what, status, NOTHING, refused, untouchedStatus, untouched);
    }

    /** So does one behind another call, which isn't refused. */
    static void leaves(String what, int status, Act ahead, Act refused) {
        NibbleEngine other = lively();
        ahead.on(other);
        int[] counts = status(other);
        compare(what, status, ahead, refused, counts, everything(other));
    }

    private static void compare(String what, int status, Act ahead, Act refused, int[] counts, String due) {
        NibbleEngine x = lively();
        ahead.on(x);
        try {
            refused.on(x);
        } catch (RuntimeException e) {
            // which one is due is asked for elsewhere
        }
        int[] got = status(x);
        for (int i = 0; i < 3; i++) {
            int which = i;
            due(what + ": STATUS " + i, counts[i] + (i == status ? 1 : 0), () -> got[which]);
        }
        String all = everything(x);
        if (!all.equals(due)) {
            Check.tell(sentence + what + ": it isn't as it was: " + all + ", was " + due);
        }
    }

    /** Two objects answer alike; both are of no use behind it. */
    static void alike(String what, NibbleEngine one, NibbleEngine other) {
        String first = everything(one);
        String second = everything(other);
        due(what + ": " + first + " and " + second, true, first.equals(second));
    }

    private static int[] status(NibbleEngine x) {
        return new int[] {x.count(12), x.count(13), x.count(14)};
    }

    /** All that can be asked for but STATUS, within 512 calls; at the end the ACTS are undone and the image is back. */
    static String everything(NibbleEngine x) {
        StringBuilder row = new StringBuilder(Check.bytes(x, 0, 256));
        add(row, () -> x.fault());
        for (int i = 0; i < 12; i++) {
            int what = i;
            add(row, () -> x.count(what));
        }
        for (int i = 0; i < 8; i++) {
            int which = i;
            add(row, () -> x.register(which));
            add(row, () -> x.guard(which + 1));
        }
        for (int i = 0; i < 9; i++) {
            int level = i / 3;
            int what = i % 3;
            add(row, () -> x.why(level, what));
        }
        for (int i = 0; i < 10; i++) {
            int which = i;
            add(row, () -> x.done(which));
            add(row, () -> x.trace(which));
        }
        for (int i = 0; i < 3; i++) {
            int what = i;
            add(row, () -> x.blamed(0, 1, what));
            add(row, () -> x.blamed(9, 1, what));
        }
        undone(row, x);
        add(row, () -> x.restore() ? 1 : 0);
        undone(row, x);
        add(row, () -> x.program(10));
        return row.toString();
    }

    private static void undone(StringBuilder row, NibbleEngine x) {
        for (int i = 0; i < 8; i++) {
            add(row, () -> x.undo());
            add(row, () -> x.count(0));
            add(row, () -> x.count(2));
            add(row, () -> x.at(20) + 256 * x.at(21));
            add(row, () -> x.register(5));
        }
    }

    private static void add(StringBuilder row, Check.Call call) {
        row.append(' ');
        try {
            row.append(call.answer());
        } catch (RuntimeException e) {
            row.append(e.getClass().getSimpleName());
        }
    }

    /** Nothing at all is done, STATUS included. */
    static void asks(String what, Act asked) {
        leaves(what, NibbleEngine.NONE, asked);
    }

    static void end(String test) {
        sentence = "";
        leaves("nothing", NibbleEngine.NONE, NOTHING);
        Check.end(test);
    }
}
