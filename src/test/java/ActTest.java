import java.util.NoSuchElementException;

/** Promises 18 to 22, 35 and 36: what is done by hand, undone and kept in an image. */
public final class ActTest {
    private static final String COUNTING = "at 0 packed 1 in 1;at 9 #ab;a:add 0:1 0:1;plus %1 1;guard 1 b;test 250:7;b:back;";

    public static void main(String[] args) {
        promise18();
        promise19();
        promise20();
        promise21();
        promise22();
        promise22Forty();
        promise35();
        promise36();
        Check.end("ActTest");
    }

    private static void refusesAct(String what, NibbleEngine x, int want, Check.Call call) {
        int before = x.count(13);
        int acts = x.count(9);
        Check.due(what, want, call);
        Check.due(what + ": STATUS", before + 1, () -> x.count(13));
        Check.due(what + ": no ACT", acts, () -> x.count(9));
    }

    private static void promise18() {
        NibbleEngine x = Check.told("at 255 #80;halt;");
        Check.due("18: what was there", 0x80, () -> x.lay(255, 7));
        Check.due("18: what is there", 7, () -> x.at(255));
        Check.due("18: 255", 0, () -> x.lay(0, 255));
        Check.due("18: 0", 255, () -> x.lay(0, 0));
        Check.due("18: ACTS", 3, () -> x.count(9));
        Check.due("18: no TIME", 0, () -> x.count(0));
        refusesAct("18: no such PLACE", x, -1, () -> x.lay(256, 7));
        refusesAct("18: no PLACE below", x, -1, () -> x.lay(-1, 7));
        refusesAct("18: far", x, -1, () -> x.lay(Integer.MAX_VALUE, 7));
        refusesAct("18: far below", x, -1, () -> x.lay(Integer.MIN_VALUE, 7));
        refusesAct("18: 256", x, -1, () -> x.lay(0, 256));
        refusesAct("18: below 0", x, -1, () -> x.lay(0, -1));
        refusesAct("18: it is so", x, -1, () -> x.lay(255, 7));
        refusesAct("18: it is 0", x, -1, () -> x.lay(0, 0));
        x.steps(1);
        Check.due("18: it may be HALTED", 0, () -> x.lay(5, 5));
    }

    private static void promise19() {
        NibbleEngine x = new NibbleEngine();
        Check.due("19: SET", true, x.set(7, Integer.MIN_VALUE));
        Check.due("19: so", Integer.MIN_VALUE, () -> x.register(7));
        Check.due("19: again", true, x.set(7, 0));
        Check.due("19: ACTS", 2, () -> x.count(9));
        refusesAct("19: no such one", x, 0, () -> x.set(8, 1) ? 1 : 0);
        refusesAct("19: none below", x, 0, () -> x.set(-1, 1) ? 1 : 0);
        refusesAct("19: far", x, 0, () -> x.set(Integer.MAX_VALUE, 1) ? 1 : 0);
        refusesAct("19: it is so", x, 0, () -> x.set(7, 0) ? 1 : 0);
    }

    private static void promise20() {
        NibbleEngine x = Check.told("halt;test 250:7;halt;");
        Check.due("20: any INSTRUCTION", 0, () -> x.next(2));
        Check.due("20: it is NEXT", 2, () -> x.count(2));
        Check.due("20: the same one", 0, () -> x.next(2));
        Check.due("20: behind the last one", 1, () -> x.next(3));
        Check.due("20: HALTED", 1, () -> x.count(1));
        Check.due("20: the first", 0, () -> x.next(0));
        Check.due("20: each is an ACT", 4, () -> x.count(9));
        refusesAct("20: below", x, -1, () -> x.next(-1));
        refusesAct("20: above", x, -1, () -> x.next(4));
        refusesAct("20: far", x, -1, () -> x.next(Integer.MAX_VALUE));
        refusesAct("20: far below", x, -1, () -> x.next(Integer.MIN_VALUE));
        x.next(1);
        x.steps(1);
        Check.due("20: it has FAILED", 2, () -> x.count(1));
        Check.due("20: it RUNS again", 0, () -> x.next(2));
        Check.due("20: the state", 0, () -> x.count(1));
        Check.due("20: WHY stays", 1, () -> x.why(0, 0));
        NibbleEngine empty = new NibbleEngine();
        Check.due("20: of an empty PROGRAM", 1, () -> empty.next(0));
        refusesAct("20: it has no INSTRUCTION", empty, -1, () -> empty.next(1));
        NibbleEngine old = Check.told("guard 1 g;test 250:7;halt;g:back;");
        old.steps(2);
        old.next(0);
        Check.due("20: OLD stays", 1, () -> old.count(4));
        Check.due("20: GUARDS stay", 3, () -> old.guard(1));
    }

    private static void promise21() {
        NibbleEngine x = Check.told(COUNTING);
        x.set(3, 9);
        x.lay(7, 7);
        x.steps(4);
        x.note(1, 1, 1);
        Check.due("21: the state", 0, () -> x.begin());
        Check.bytes("21: STORE", "1c00000000000000", x, 0);
        Check.due("21: as behind the TEXT", 0xab, () -> x.at(9));
        Check.due("21: REGISTERS", 0, () -> x.register(1) + x.register(3));
        int[] counts = {4, 0, 0, 0, -1, 5, 1, 1, 4, 4, 1};
        for (int i = 0; i < counts.length; i++) {
            int what = i;
            Check.due("21: count " + i, counts[i], () -> x.count(what));
        }
        Check.due("21: GUARDS", -1, () -> x.guard(1));
        Check.due("21: WHY stays", 1, () -> x.why(0, 0));
        Check.due("21: TRACE stays", 3, () -> x.trace(0));
        Check.due("21: DONE stays", 1, () -> x.done(0));
        Check.due("21: always", 0, () -> x.begin());
        Check.due("21: always an ACT", 5, () -> x.count(9));
        Check.due("21: of an empty PROGRAM", 1, () -> new NibbleEngine().begin());
        NibbleEngine failed = Check.told("test 250:7;");
        failed.steps(1);
        Check.due("21: behind a FAULT", 0, () -> failed.begin());
    }

    private static void promise22() {
        NibbleEngine x = Check.told(COUNTING);
        Check.due("22: there is none", -1, () -> x.undo());
        Check.due("22: not in STATUS", 0, () -> x.count(13));
        x.lay(7, 70);
        x.set(6, 60);
        x.next(1);
        x.steps(3);
        x.begin();
        x.lay(256, 0);
        Check.due("22: begin", 4, () -> x.undo());
        Check.due("22: behind the steps", 4, () -> x.count(2));
        Check.due("22: the GUARD", 4, () -> x.guard(1));
        Check.due("22: REGISTERS as behind the steps", 61, () -> x.register(1) + x.register(6));
        Check.due("22: FAULTS", 1, () -> x.count(6));
        Check.due("22: steps", 3, () -> x.undo());
        Check.due("22: TIME", 0, () -> x.count(0));
        Check.due("22: FAULTS are none", 0, () -> x.count(6));
        Check.refused("22: WHY is none", NoSuchElementException.class, () -> x.why(0, 0));
        Check.due("22: TRACE is none", 0, () -> x.count(8));
        Check.due("22: DONE is none", 5, () -> x.count(7));
        Check.due("22: NEXT was set", 1, () -> x.count(2));
        Check.due("22: next", 2, () -> x.undo());
        Check.due("22: NEXT", 0, () -> x.count(2));
        Check.due("22: set", 1, () -> x.undo());
        Check.due("22: REGISTER", 0, () -> x.register(6));
        Check.due("22: it is laid yet", 70, () -> x.at(7));
        Check.due("22: lay", 0, () -> x.undo());
        Check.due("22: the byte", 0, () -> x.at(7));
        Check.due("22: none is left", -1, () -> x.undo());
        Check.due("22: STATUS stays", 1, () -> x.count(13));
        x.note(0, 0, 0);
        x.lay(1, 1);
        x.undo();
        Check.due("22: NOTED stays", 1, () -> x.count(10));
        NibbleEngine failing = Check.told("halt;test 250:7;");
        failing.next(1);
        failing.steps(1);
        failing.undo();
        Check.due("22: the state", 0, () -> failing.count(1));
        Check.due("22: the same way again", 1, () -> failing.steps(1));
        Check.due("22: it fails again", 2, () -> failing.count(1));
    }

    private static void promise22Forty() {
        NibbleEngine x = Check.told("halt;");
        for (int i = 1; i <= 45; i++) {
            x.set(0, i);
            int due = Math.min(i, 40);
            Check.due("22: kept of " + i, due, () -> x.count(9));
        }
        for (int i = 39; i >= 0; i--) {
            int left = i;
            Check.due("22: left", left, () -> x.undo());
            Check.due("22: back by one", left + 5, () -> x.register(0));
        }
        Check.due("22: the first five are gone", -1, () -> x.undo());
        Check.due("22: five stay", 5, () -> x.register(0));
        for (int i = 1; i <= 41; i++) {
            x.lay(3, i);
            x.steps(1);
            x.next(0);
            x.undo();
        }
        // the 41st drove the oldest one out before it was undone itself
        Check.due("22: forty but the one undone", 39, () -> x.count(9));
        x.undo();
        Check.due("22: ahead of the last one", 40, () -> x.at(3));
    }

    private static void promise35() {
        NibbleEngine x = Check.told(COUNTING);
        x.lay(5, 1);
        x.image();
        x.lay(5, 2);
        x.image();
        x.lay(5, 3);
        Check.due("35: there is one", true, x.restore());
        Check.due("35: in place of another one", 2, () -> x.at(5));
        Check.due("35: no ACT", 2, () -> x.count(9));
        x.restore();
        x.begin();
        x.steps(4);
        x.restore();
        Check.due("35: it stays", 2, () -> x.at(5));
        Check.due("35: TIME, too", 0, () -> x.count(0));
    }

    private static void promise36() {
        NibbleEngine x = Check.told(COUNTING);
        Check.due("36: there is none", false, x.restore());
        x.steps(4);
        x.lay(5, 5);
        x.note(2, 3, 4);
        x.note(2, 3, 256);
        x.lay(-1, 0);
        Check.program(x, "?");
        x.image();
        String before = all(x);
        Check.program(x, "at");
        x.feed(0, 0, 0, 0, 0);
        x.undo();
        x.undo();
        x.begin();
        x.set(1, 99);
        x.steps(3);
        x.forget();
        x.note(5, 3, 9);
        x.lay(-1, 0);
        x.note(-1, 0, 0);
        Check.due("36: true", true, x.restore());
        Check.due("36: all is as it was", true, before.equals(all(x)));
        Check.due("36: the tape is not in it", 20, () -> x.count(11));
        Check.due("36: the TEXT's FAULT is not in it", 2, () -> x.fault());
        Check.due("36: the ACTS can be undone", 1, () -> x.undo());
        Check.due("36: lay is undone", 0, () -> x.at(5));
        Check.due("36: and the steps", 0, () -> x.undo());
        Check.due("36: TIME 0", 0, () -> x.count(0));
        Check.due("36: once more", true, x.restore());
        Check.due("36: all again", true, before.equals(all(x)));
        Check.due("36: a FAULT leaves it", 1, () -> Check.program(x, ";"));
        Check.due("36: it is there", true, x.restore());
        Check.program(x, "halt;");
        Check.due("36: a PROGRAM doesn't", false, x.restore());
        x.image();
        Check.due("36: a new one", true, x.restore());
        Check.due("36: of the new PROGRAM", 1, () -> x.count(5));
        NibbleEngine ring = Check.told("halt;");
        for (int i = 1; i <= 50; i++) {
            ring.set(0, i);
        }
        ring.image();
        for (int i = 1; i <= 7; i++) {
            ring.set(0, -i);
        }
        ring.restore();
        for (int i = 39; i >= 0; i--) {
            int left = i;
            Check.due("36: of forty ACTS", left, () -> ring.undo());
            Check.due("36: back by one", left + 10, () -> ring.register(0));
        }
    }

    /** All that an image keeps, as far as it can be asked for. */
    private static String all(NibbleEngine x) {
        StringBuilder row = new StringBuilder(Check.bytes(x, 0, 256));
        for (int i = 0; i < 8; i++) {
            row.append(' ').append(x.register(i)).append(' ').append(x.guard(i + 1));
        }
        for (int i = 0; i < 15; i++) {
            row.append(' ').append(i == 11 ? 0 : x.count(i));
        }
        for (int i = 0; i < x.count(8); i++) {
            row.append(' ').append(x.trace(i));
        }
        for (int i = 0; i < x.count(5); i++) {
            row.append(' ').append(x.done(i));
        }
        for (int i = 0; i < 6; i++) {
            row.append(' ').append(x.why(i / 3, i % 3));
        }
        return row.append(' ').append(x.blamed(3, 1, 0)).append(' ').append(x.blamed(3, 1, 1)).toString();
    }
}
