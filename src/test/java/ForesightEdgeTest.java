/** Each sentence that names an edge of promises 23 to 34, and of what comes, is spoilt and is NOTED (Terms, 3). */
public final class ForesightEdgeTest {
    private static final int[] WRONG_PLACES = {-1, 256, 257, Bench.LEAST, Bench.MOST};
    private static final int[] WRONG_100 = {-1, 101, 102, Bench.LEAST, Bench.MOST};

    public static void main(String[] args) {
        then();
        promise23();
        promise24();
        promise25();
        onceFault();
        onceRest();
        onceChange();
        onceReturn();
        promise26();
        promise28();
        spoiltFields();
        spoiltSteps();
        named();
        harmless();
        changed();
        firstFaultEnds();
        promise30();
        noted();
        promise31();
        blamed();
        blamedFaults();
        promise32();
        promise33();
        years();
        yearsDrawn();
        promise34();
        allAsEver();
        Edge.end("ForesightEdgeTest");
    }

    /** A PROGRAM whose last INSTRUCTION is done on the so manyth STEP first (from 4 on). */
    private static String onStep(int many, String last) {
        String ahead = many % 2 == 0 ? "" : "load %3 0;";
        return "load %1 " + (many / 2 - 1) + ";" + ahead + "a:plus %2 0;count %1 a;" + last + ";";
    }

    private static void then() {
        Edge.says("Terms 3", "THEN, behind so many STEPS (0 to 100).");
        NibbleEngine x = Check.told("at 9 #00;a:plus %7 1;copy 9:1 10;on 15 a;");
        x.lay(10, 5);
        int[] steps = {0, 1, 2, 3, 99, 100};
        int[] held = {0, 1, 1, 1, 33, 34};
        int[] next = {0, 1, 2, 0, 0, 1};
        int[] bytes = {0, 0, 5, 5, 5, 5};
        for (int i = 0; i < steps.length; i++) {
            int many = steps[i];
            Edge.due("the REGISTER behind " + many, held[i], () -> x.holds(many, 7));
            Edge.due("NEXT behind " + many, next[i], () -> x.where(many, 0));
            Edge.due("the byte behind " + many, bytes[i], () -> x.then(many, 9));
        }
        NibbleEngine rests = Check.told(onStep(100, "halt") + "halt;");
        Edge.due("behind 99 it RUNS", 0, () -> rests.where(99, 2));
        Edge.due("behind 100 it is HALTED", 1, () -> rests.where(100, 2));
        NibbleEngine fails = Check.told(onStep(99, "test 255:2"));
        Edge.due("behind 98 no FAULT", 0, () -> fails.where(98, 3));
        Edge.due("behind 99 one", 1, () -> fails.where(99, 3));
        Edge.due("behind 100 it is the same one", 1, () -> fails.where(100, 3));
        Edge.due("behind 100 it has FAILED", 2, () -> fails.where(100, 2));
        NibbleEngine late = Check.told("a:plus %1 1;on 15 a;");
        for (int i = 0; i < 400; i++) {
            late.steps(50);
        }
        Edge.due("TIME is no edge of it", 10050, () -> late.holds(100, 1));
    }

    private static void promise23() {
        Edge.says("Promise 23", "THEN: the byte at a PLACE. NoSuchElementException: no such PLACE. "
                + "IllegalArgumentException (behind that): not 0 to 100.");
        NibbleEngine x = Check.told("at 0 #11;at 255 #22;a:on 15 a;");
        for (int steps : new int[] {0, 1, 99, 100}) {
            Edge.due("the first PLACE behind " + steps, 0x11, () -> x.then(steps, 0));
            Edge.due("the last PLACE behind " + steps, 0x22, () -> x.then(steps, 255));
        }
        for (int steps : WRONG_100) {
            Edge.illegal(steps + " STEPS", () -> x.then(steps, 0));
            Edge.asks(steps + " STEPS", y -> y.then(steps, 0));
            for (int place : WRONG_PLACES) {
                Edge.none("PLACE " + place + " is ahead of " + steps, () -> x.then(steps, place));
            }
        }
        for (int place : WRONG_PLACES) {
            Edge.none("PLACE " + place, () -> x.then(0, place));
            Edge.asks("PLACE " + place, y -> y.then(1, place));
        }
    }

    private static void promise24() {
        Edge.says("Promise 24", "THEN: what a REGISTER holds. NoSuchElementException: no such one. "
                + "IllegalArgumentException (behind that): not 0 to 100.");
        NibbleEngine x = Check.told("a:on 15 a;");
        x.set(0, 5);
        x.set(7, 6);
        int[] wrong = {-1, 8, 9, Bench.LEAST, Bench.MOST};
        for (int steps : new int[] {0, 1, 99, 100}) {
            Edge.due("REGISTER 0 behind " + steps, 5, () -> x.holds(steps, 0));
            Edge.due("REGISTER 7 behind " + steps, 6, () -> x.holds(steps, 7));
        }
        for (int steps : WRONG_100) {
            Edge.illegal(steps + " STEPS", () -> x.holds(steps, 7));
            Edge.asks(steps + " STEPS", y -> y.holds(steps, 7));
            for (int which : wrong) {
                Edge.none("REGISTER " + which + " is ahead of " + steps, () -> x.holds(steps, which));
            }
        }
        for (int which : wrong) {
            Edge.none("REGISTER " + which, () -> x.holds(100, which));
            Edge.asks("REGISTER " + which, y -> y.holds(1, which));
        }
    }

    private static void promise25() {
        Edge.says("Promise 25", "THEN: NEXT (what 0), CC (1), the state (2), FAULTS of STEPS ever (3). "
                + "NoSuchElementException: another what. IllegalArgumentException (behind that): not 0 to 100.");
        NibbleEngine x = Check.told("at 0 #a2;test 0:1;guard 1 g;test 255:2;g:test 254:3;on 15 a;a:add 0:1 0:1;");
        x.steps(3);
        int[] next = {3, 3, 3, 3};
        int[] faults = {1, 2, 3, 4};
        for (int i = 0; i < 4; i++) {
            int many = i;
            Edge.due("NEXT behind " + i, next[i], () -> x.where(many, 0));
            Edge.due("CC behind " + i, 3, () -> x.where(many, 1));
            Edge.due("the state behind " + i, 0, () -> x.where(many, 2));
            Edge.due("FAULTS ever behind " + i, faults[i], () -> x.where(many, 3));
        }
        x.next(5);
        Edge.due("it fails then", 2, () -> x.where(1, 2));
        Edge.due("FAULTS ever, then", 2, () -> x.where(100, 3));
        int[] wrong = {-1, 4, 5, Bench.LEAST, Bench.MOST};
        for (int what : wrong) {
            Edge.none("what " + what, () -> x.where(0, what));
            Edge.asks("what " + what, y -> y.where(0, what));
        }
        for (int steps : WRONG_100) {
            for (int what = 0; what < 4; what++) {
                int asked = what;
                Edge.illegal(steps + " STEPS, what " + what, () -> x.where(steps, asked));
            }
            for (int what : wrong) {
                Edge.none("what " + what + " is ahead of " + steps, () -> x.where(steps, what));
            }
            Edge.asks(steps + " STEPS", y -> y.where(steps, 3));
        }
    }

    private static void onceFault() {
        Edge.says("Terms 3", "ONCE: on the how manyth STEP (1 to 100) a FAULT of a kind comes first");
        Edge.due("on the first", 1, () -> Check.told("test 255:2;").faults(1));
        Edge.due("on the 4th", 4, () -> Check.told(onStep(4, "test 255:2")).faults(1));
        Edge.due("on the 99th", 99, () -> Check.told(onStep(99, "test 255:2")).faults(1));
        Edge.due("on the 100th", 100, () -> Check.told(onStep(100, "test 255:2")).faults(1));
        Edge.due("on the 101st", -1, () -> Check.told(onStep(101, "test 255:2")).faults(1));
        Edge.due("another kind", -1, () -> Check.told("test 255:2;").faults(2));
        NibbleEngine x = Check.told("guard 1 b;b:test 255:2;");
        Edge.due("the first of many", 2, () -> x.faults(1));
        x.steps(2);
        Edge.due("one that was doesn't count", 1, () -> x.faults(1));
        NibbleEngine failed = Check.told("test 255:2;");
        failed.steps(1);
        Edge.due("it doesn't RUN", -1, () -> failed.faults(1));
        NibbleEngine two = Check.told("at 0 #9c;guard 1 b;b:guard 6 c;test 255:2;c:add 0:1 0:1;add 0:1 5:1;");
        Edge.due("kind 1 ahead of others", 3, () -> two.faults(1));
        Edge.due("kind 6, not GUARDED, is none", -1, () -> Check.told("at 0 #9c;add 0:1 0:1;").faults(6));
        Edge.due("kind 6, GUARDED", 2, () -> Check.told("at 0 #9c;guard 6 c;add 0:1 0:1;c:halt;").faults(6));
        Edge.due("behind a FAULT that isn't GUARDED none comes", -1, () -> Check.told("test 255:2;add 0:1 0:1;").faults(4));
    }

    private static void onceRest() {
        Edge.says("Terms 3", "behind how many (0 to 100) it doesn't RUN");
        Edge.due("no INSTRUCTION", 0, () -> new NibbleEngine().halts());
        Edge.due("one", 1, () -> Check.told("back;").halts());
        Edge.due("'halt'", 1, () -> Check.told("halt;back;").halts());
        Edge.due("99", 99, () -> Check.told(onStep(99, "halt")).halts());
        Edge.due("100", 100, () -> Check.told(onStep(100, "halt")).halts());
        Edge.due("101", -1, () -> Check.told(onStep(101, "halt")).halts());
        Edge.due("100, by the end", 100, () -> Check.told(onStep(100, "back")).halts());
        Edge.due("101, by the end", -1, () -> Check.told(onStep(101, "back")).halts());
        Edge.due("100, by a FAULT", 100, () -> Check.told(onStep(100, "test 255:2") + "back;").halts());
        NibbleEngine failed = Check.told("test 255:2;back;");
        failed.steps(1);
        Edge.due("FAILED", 0, () -> failed.halts());

        Edge.says("Promise 27", "ONCE: it doesn't RUN; NONE: none.");
        Edge.due("never", -1, () -> Check.told("a:on 15 a;").halts());
        Edge.due("by a GUARD, never", -1, () -> Check.told("a:guard 1 a;test 255:2;").halts());
        Edge.asks("halts", y -> y.halts());
    }

    private static void onceChange() {
        Edge.says("Terms 3", "on the how manyth (1 to 100) a byte is another one first");
        String one = "at 1 #01;";
        Edge.due("on the first", 1, () -> Check.told(one + "copy 0:1 1;").changes(0));
        Edge.due("on the 99th", 99, () -> Check.told(one + onStep(99, "copy 0:1 1")).changes(0));
        Edge.due("on the 100th", 100, () -> Check.told(one + onStep(100, "copy 0:1 1")).changes(0));
        Edge.due("on the 101st", -1, () -> Check.told(one + onStep(101, "copy 0:1 1")).changes(0));
        Edge.due("another byte", -1, () -> Check.told(one + "copy 0:1 1;").changes(1));
        Edge.due("the same byte is laid", -1, () -> Check.told("at 0 #0101;copy 0:1 1;").changes(0));
        NibbleEngine x = Check.told("at 0 #000102;copy 0:1 1;copy 0:1 3;copy 0:1 2;halt;");
        Edge.due("first", 1, () -> x.changes(0));
        x.steps(1);
        Edge.due("as against now", 1, () -> x.changes(0));
        x.steps(1);
        Edge.due("and as against this now", 1, () -> x.changes(0));
        x.steps(1);
        Edge.due("no more", -1, () -> x.changes(0));
        Edge.due("a FAULT lays nothing", -1, () -> Check.told("at 0 #1c;add 0:1 1:1;").changes(0));
        Edge.due("the last PLACE", 2, () -> Check.told("at 0 #01;back;copy 255:1 0;").changes(255));
        Edge.due("it doesn't RUN", -1, () -> new NibbleEngine().changes(0));
    }

    private static void onceReturn() {
        Edge.says("Terms 3", "behind how many (1 to 100) first STORE, REGISTERS, CC, NEXT, OLD, GUARDS, state all are "
                + "as now; none.");
        Edge.due("it doesn't RUN", 1, () -> new NibbleEngine().round());
        Edge.due("1", 1, () -> Check.told("a:on 15 a;").round());
        Edge.due("2", 2, () -> Check.told("a:plus %1 0;on 15 a;").round());
        String loop = "b:load %1 48;a:plus %2 0;count %1 a;";
        Edge.due("99", 99, () -> Check.told(loop + "plus %3 0;on 15 b;").round());
        Edge.due("100", 100, () -> Check.told(loop + "plus %3 0;plus %3 0;on 15 b;").round());
        Edge.due("101", -1, () -> Check.told(loop + "plus %3 0;plus %3 0;plus %3 0;on 15 b;").round());
        Edge.due("first, of many", 3, () -> Check.told("a:plus %1 1;plus %1 -1;on 15 a;").round());

        NibbleEngine store = Check.told("at 9 #01;a:copy 8:1 9;on 15 a;");
        Edge.due("STORE isn't as now", -1, () -> store.round());
        store.steps(2);
        Edge.due("STORE is", 2, () -> store.round());
        Edge.due("a REGISTER isn't", -1, () -> Check.told("a:plus %7 1;on 15 a;").round());
        NibbleEngine cc = Check.told("at 0 #12;a:test 0:1;on 15 a;");
        Edge.due("CC isn't", -1, () -> cc.round());
        cc.steps(2);
        Edge.due("CC is", 2, () -> cc.round());
        Edge.due("NEXT isn't", -1, () -> Check.told("halt;halt;").round());
        NibbleEngine old = Check.told("guard 1 b;b:plus %1 0;test 255:2;");
        old.steps(1);
        Edge.due("OLD isn't", -1, () -> old.round());
        old.steps(2);
        Edge.due("OLD is", 2, () -> old.round());
        NibbleEngine guards = Check.told("a:guard 8 a;on 15 a;");
        Edge.due("GUARDS aren't", -1, () -> guards.round());
        guards.steps(2);
        Edge.due("GUARDS are", 2, () -> guards.round());
        NibbleEngine state = Check.told("test 255:2;");
        Edge.due("the state isn't", -1, () -> state.round());
        state.steps(1);
        Edge.due("the state is", 1, () -> state.round());
        NibbleEngine time = Check.told("a:on 15 a;");
        time.steps(1);
        Edge.due("TIME counts for nothing", 1, () -> time.round());
        NibbleEngine faults = Check.told("guard 1 a;a:test 255:2;");
        faults.steps(2);
        Edge.due("nor do FAULTS, WHY, TRACE, DONE", 1, () -> faults.round());

        Edge.says("Promise 29", "ONCE: all is as now; NONE: none.");
        Edge.due("none", -1, () -> Check.told("halt;").round());
        Edge.asks("round", y -> y.round());
    }

    private static void promise26() {
        Edge.says("Promise 26", "ONCE: a FAULT of a kind; NONE: none. NoSuchElementException: no such kind.");
        NibbleEngine x = Check.told("at 8 packed 2147483648 in 8;bin %1 8;");
        Edge.due("kind 8", 1, () -> x.faults(8));
        Edge.due("kind 7", -1, () -> x.faults(7));
        Edge.due("kind 1", -1, () -> x.faults(1));
        for (int kind : new int[] {0, -1, 9, 10, Bench.LEAST, Bench.MOST}) {
            Edge.none("kind " + kind, () -> x.faults(kind));
            Edge.none("kind " + kind + " of an empty PROGRAM", () -> new NibbleEngine().faults(kind));
            Edge.asks("kind " + kind, y -> y.faults(kind));
        }
        Edge.asks("kind 1", y -> y.faults(1));
    }

    private static void promise28() {
        Edge.says("Promise 28", "ONCE: the byte at a PLACE is another one; NONE: none. NoSuchElementException: no such "
                + "PLACE.");
        NibbleEngine x = Check.told("at 9 #01;copy 0:1 9;copy 255:1 9;");
        Edge.due("the first PLACE", 1, () -> x.changes(0));
        Edge.due("the last PLACE", 2, () -> x.changes(255));
        Edge.due("none", -1, () -> x.changes(9));
        for (int place : WRONG_PLACES) {
            Edge.none("PLACE " + place, () -> x.changes(place));
            Edge.asks("PLACE " + place, y -> y.changes(place));
        }
        Edge.asks("a PLACE", y -> y.changes(0));
    }

    private static void spoilt(String what, NibbleEngine x, int place, int length, int steps, int... due) {
        for (int i = 0; i < 4; i++) {
            int asked = i;
            Edge.due(what + ", " + i, due[i], () -> x.spoilt(place, length, steps, asked));
        }
    }

    private static void spoiltFields() {
        Edge.says("Terms 3", "SPOILT: a HALF of a FIELD (LENGTH 1 to 3) holds another number than it does (15 each)");
        for (int held : new int[] {0x00, 0x0f, 0xf0, 0xff, 0x9a}) {
            NibbleEngine x = new NibbleEngine();
            x.lay(0, held == 0 ? 1 : held);
            x.lay(0, held);
            spoilt("one byte " + held, x, 0, 1, 1, 0, 30, 0, -1);
        }
        NibbleEngine x = Check.told("a:on 15 a;");
        spoilt("two bytes", x, 0, 2, 1, 0, 60, 0, -1);
        spoilt("three bytes", x, 0, 3, 1, 0, 90, 0, -1);
        spoilt("the last byte", x, 255, 1, 1, 0, 30, 0, -1);
        spoilt("the last three", x, 253, 3, 1, 0, 90, 0, -1);
        // a FIELD of two, of which the second byte alone is touched, and one of one ahead of it
        NibbleEngine copied = Check.told("copy 9:1 5;");
        spoilt("the byte itself", copied, 5, 1, 1, 0, 0, 30, 1001);
        spoilt("the byte at the FIELD's end", copied, 3, 3, 1, 0, 60, 30, 1001);
        spoilt("the byte at the FIELD's begin", copied, 5, 3, 1, 0, 60, 30, 1001);
        spoilt("the byte behind the FIELD", copied, 2, 3, 1, 0, 90, 0, -1);
        spoilt("the byte ahead of the FIELD", copied, 6, 3, 1, 0, 90, 0, -1);
    }

    private static void spoiltSteps() {
        Edge.says("Terms 3", "then so many STEPS (1 to 60), but none behind the first FAULT");
        NibbleEngine first = Check.told("copy 9:1 5;");
        spoilt("on the first", first, 5, 1, 1, 0, 0, 30, 1001);
        NibbleEngine sixty = Check.told(onStep(60, "copy 9:1 5"));
        spoilt("behind 59", sixty, 5, 1, 59, 0, 30, 0, -1);
        spoilt("behind 60", sixty, 5, 1, 60, 0, 0, 30, 1001);
        NibbleEngine beyond = Check.told(onStep(61, "copy 9:1 5"));
        spoilt("on the 61st", beyond, 5, 1, 60, 0, 30, 0, -1);
    }

    private static void named() {
        Edge.says("Terms 3", "NAMED, if that is one of 4 or 5 whose HALF is the spoilt one");
        // its own byte counts for nothing, so 8 and 9 alone change something: CC
        spoilt("4, of the first operand", Check.told("at 0 #1c2c;add 0:1 1:1;"), 0, 1, 1, 16, 12, 2, 8);
        spoilt("4, of the second operand", Check.told("at 0 #1c2c;add 0:1 1:1;"), 1, 1, 1, 16, 3, 11, 200);
        spoilt("4, by 'edit'", Check.told("at 0 #402020;at 9 #12;edit 0:3 9;"), 9, 1, 1, 6, 0, 24, 1800);
        spoilt("5", Check.told("at 0 #00001c1c;mul 0:3 3:1;"), 0, 1, 1, 30, 0, 0, -1);
        spoilt("4, GUARDED", Check.told("at 0 #1c2c;guard 4 g;add 0:1 1:1;g:halt;"), 0, 1, 9, 16, 12, 2, 8);
        // another kind, and another HALF
        NibbleEngine range = Check.told("at 0 packed 2147483647 in 8;bin %1 0;");
        spoilt("8 isn't", range, 0, 1, 1, 12, 0, 18, 1);
        spoilt("7 isn't", Check.told("at 0 #00001c1c;div 0:3 3:1;"), 3, 1, 1, 16, 3, 11, 600);
        spoilt("another HALF ahead", Check.told("at 0 #a11c;add 0:1 1:1;"), 1, 1, 1, 0, 0, 30, 200);
        spoilt("the right HALF of the same byte", Check.told("at 0 #a11c;add 0:1 1:1;"), 0, 1, 1, 5, 0, 25, 0);
        // the first FAULT alone: the second one would be of the spoilt HALF
        spoilt("ahead of it another FAULT", Check.told("at 0 #1c2c;guard 1 g;test 255:2;g:add 0:1 1:1;"), 1, 1, 9, 0, 0, 30, 200);
    }

    private static void harmless() {
        Edge.says("Terms 3", "HARMLESS, if not, and there is a FAULT in neither this nor as it is (likewise up to its "
                + "first one), and STORE but for that HALF's byte, REGISTERS, CC, NEXT are alike at the end");
        spoilt("alike", Check.told("copy 9:1 5;"), 4, 1, 1, 0, 30, 0, -1);
        spoilt("that byte is another one", Check.told("a:on 15 a;"), 4, 1, 9, 0, 30, 0, -1);
        spoilt("its other HALF, too", Check.told("at 4 #12;digits 4:1 4;zones 4:1 4;"), 4, 1, 2, 0, 30, 0, -1);
        spoilt("another byte isn't alike", Check.told("copy 9:1 5;"), 5, 1, 1, 0, 0, 30, 1001);
        spoilt("the neighbour isn't alike", Check.told("copy 6:1 5;"), 5, 1, 1, 0, 0, 30, 1001);
        spoilt("a REGISTER isn't alike", Check.told("at 7 #5c;bin %7 0;"), 7, 1, 1, 16, 3, 11, 1400);
        spoilt("CC isn't alike", Check.told("at 0 #1c;test 0:1;"), 0, 1, 1, 0, 14, 16, 10);
        // CC alike again at the end, but not NEXT
        spoilt("NEXT isn't alike", Check.told("at 0 #1c;test 0:1;on 8 a;test 1:1;halt;a:test 1:1;plus %1 0;"), 0, 1, 4, 0, 14, 16, 10);
        spoilt("NEXT and CC are alike again", Check.told("at 0 #1c;test 0:1;on 8 a;a:test 1:1;halt;"), 0, 1, 4, 0, 30, 0, -1);
        // GUARDS, TIME and the state aren't asked for
        spoilt("GUARDS count for nothing", Check.told("at 0 #1c;test 0:1;on 7 a;plus %1 0;b:test 9:1;halt;a:guard 1 b;on 15 b;"), 0, 1,
                20, 0, 30, 0, -1);
        spoilt("the state counts for nothing", Check.told("at 0 #1c;test 0:1;on 8 a;test 9:1;halt;c:back;a:test 9:1;on 15 c;"), 0, 1, 4, 0,
                30, 0, -1);
        NibbleEngine fault = Check.told("plus %1 0;test 255:2;");
        spoilt("ahead of its FAULT", fault, 3, 1, 1, 0, 30, 0, -1);
        spoilt("a FAULT as it is", fault, 3, 1, 2, 0, 0, 30, 601);
        spoilt("a FAULT in this, not as it is", Check.told("at 0 #1c;test 0:1;on 8 a;test 255:2;a:test 9:1;"), 0, 1, 3, 0, 14, 16, 10);
        // as it is there is a FAULT of the spoilt HALF, which mends it
        spoilt("as it is, not in this", Check.told("at 0 #ac;shift 0:1 0 0;"), 0, 1, 1, 5, 0, 25, 0);
    }

    private static void changed() {
        Edge.says("Terms 3", "of the first CHANGED (bytes from the left, left HALF ahead of right, numbers from 0 up) "
                + "100 by twice its byte's PLACE and HALF, and the number.");
        NibbleEngine all = Check.told("copy 100:3 253;");
        Edge.due("of three bytes the first", 100 * 2 * 253 + 1, () -> all.spoilt(253, 3, 1, 3));
        NibbleEngine last = Check.told("copy 100:1 255;");
        Edge.due("of three bytes the last", 100 * 2 * 255 + 1, () -> last.spoilt(253, 3, 1, 3));
        NibbleEngine zero = Check.told("at 0 #f0;copy 100:1 0;");
        Edge.due("twice 0, left, 0", 0, () -> zero.spoilt(0, 1, 1, 3));
        NibbleEngine right = Check.told("at 0 #f0;digits 100:1 0;");
        Edge.due("the right HALF alone", 100 + 1, () -> right.spoilt(0, 1, 1, 3));
        NibbleEngine digit = Check.told("at 0 #0f;digits 100:1 0;");
        Edge.due("the right HALF, 0", 100, () -> digit.spoilt(0, 1, 1, 3));
        // the most that there is: the right HALF of the last byte, by 15 alone
        NibbleEngine most = Check.told("at 255 #1e;at 0 #ff;add 0:1 255:1;");
        Edge.due("a FAULT as it is, so all", 51000, () -> most.spoilt(255, 1, 1, 3));
        NibbleEngine signs = Check.told("at 255 #1e;bin %1 248;");
        Edge.due("left: another digit", 51000, () -> signs.spoilt(255, 1, 1, 3));
        NibbleEngine none = Check.told("a:on 15 a;");
        Edge.due("none", -1, () -> none.spoilt(253, 3, 60, 3));
    }

    private static void firstFaultEnds() {
        Edge.says("Terms 3", "CHANGED else: how many of each");
        NibbleEngine each = Check.told("at 0 #1c;copy 9:1 3;test 0:1;");
        spoilt("of three bytes", each, 0, 3, 2, 0, 74, 16, 10);
        spoilt("of three others", each, 2, 3, 2, 0, 60, 30, 601);

        Edge.says("Promise 30", "SPOILT: NAMED (what 0), HARMLESS (1), CHANGED (2), the first CHANGED (3; NONE: none).");
        // behind the GUARDED FAULT 9 would be laid over, but no STEP goes by
        NibbleEngine x = Check.told("at 0 #1c;guard 4 g;add 0:1 0:1;halt;g:copy 0:1 9;add 9:1 9:1;");
        spoilt("GUARDED", x, 0, 1, 60, 16, 6, 8, 0);
        Edge.due("all of them", 30, () -> x.spoilt(0, 1, 60, 0) + x.spoilt(0, 1, 60, 1) + x.spoilt(0, 1, 60, 2));
    }

    private static void promise30() {
        Edge.says("Promise 30", "NoSuchElementException: another what. IllegalArgumentException (behind that): LENGTH "
                + "not 1 to 3, not all in the STORE, steps not 1 to 60.");
        NibbleEngine x = Check.told("a:on 15 a;");
        for (int length = 1; length <= 3; length++) {
            int many = length;
            for (int steps : new int[] {1, 2, 59, 60}) {
                Edge.due(length + " at the first PLACE", 30 * length, () -> x.spoilt(0, many, steps, 1));
                Edge.due(length + " at the last PLACE", 30 * length, () -> x.spoilt(256 - many, many, steps, 1));
            }
            for (int place : new int[] {-1, 257 - length, 256, Bench.LEAST, Bench.MOST}) {
                Edge.illegal(length + " at " + place, () -> x.spoilt(place, many, 1, 0));
                Edge.asks(length + " at " + place, y -> y.spoilt(place, many, 1, 0));
            }
        }
        for (int length : new int[] {0, -1, 4, 5, 16, Bench.LEAST, Bench.MOST}) {
            Edge.illegal("LENGTH " + length, () -> x.spoilt(0, length, 1, 0));
            Edge.asks("LENGTH " + length, y -> y.spoilt(0, length, 1, 0));
        }
        for (int steps : new int[] {0, -1, 61, 62, 100, Bench.LEAST, Bench.MOST}) {
            Edge.illegal(steps + " STEPS", () -> x.spoilt(0, 1, steps, 3));
            Edge.asks(steps + " STEPS", y -> y.spoilt(0, 1, steps, 3));
        }
        for (int what : new int[] {-1, 4, 5, Bench.LEAST, Bench.MOST}) {
            Edge.none("what " + what, () -> x.spoilt(0, 1, 1, what));
            Edge.none("what " + what + " is ahead of LENGTH", () -> x.spoilt(0, 4, 1, what));
            Edge.none("what " + what + " is ahead of the PLACE", () -> x.spoilt(256, 1, 1, what));
            Edge.none("what " + what + " is ahead of the STEPS", () -> x.spoilt(0, 1, 61, what));
            Edge.asks("what " + what, y -> y.spoilt(0, 1, 1, what));
        }
        Edge.asks("spoilt", y -> y.spoilt(0, 3, 60, 0));
    }

    private static void noted() {
        Edge.says("Terms 3", "NOTED (at most 8): which byte stands at a PLACE behind so many STEPS (0 to 60).");
        NibbleEngine x = Check.told(onStep(60, "copy 9:1 5") + "halt;");
        x.lay(5, 7);
        for (int steps : new int[] {0, 1, 59, 60}) {
            x.forget();
            x.note(steps, 9, steps < 60 ? 0 : 7);
            Edge.due("behind " + steps + " it is so", 1, () -> x.blamed(5, 1, 2));
            x.forget();
            x.note(steps, 9, steps < 60 ? 7 : 0);
            Edge.due("behind " + steps + " it isn't so", 0, () -> x.blamed(5, 1, 2));
        }
        // each of eight counts
        for (int wrong = 0; wrong < 8; wrong++) {
            NibbleEngine y = Check.told("a:on 15 a;");
            for (int i = 0; i < 8; i++) {
                y.note(i, i, i == wrong ? 1 : 0);
            }
            Edge.due("the one that isn't so is " + wrong, 0, () -> y.blamed(100, 1, 2));
            int place = wrong;
            Edge.due("its byte is blamed", 200 * place + 101, () -> y.blamed(place, 1, 1));
        }
    }

    private static void promise31() {
        Edge.says("Promise 31", "NOTED: how much is.");
        NibbleEngine much = new NibbleEngine();
        for (int i = 1; i <= 8; i++) {
            int due = i;
            Edge.due("the same " + i, due, () -> much.note(60, 255, 255));
            Edge.due("so many", due, () -> much.count(10));
        }

        Edge.says("Promise 31", "NONE (STATUS 2): there are 8, steps not 0 to 60, no such PLACE, number not 0 to 255.");
        int[][] wrong = {{-1, 0, 0}, {61, 0, 0}, {62, 0, 0}, {Bench.LEAST, 0, 0}, {Bench.MOST, 0, 0}, {0, -1, 0}, {0, 256, 0},
            {0, Bench.LEAST, 0}, {0, Bench.MOST, 0}, {0, 0, -1}, {0, 0, 256}, {0, 0, Bench.LEAST}, {0, 0, Bench.MOST}};
        for (int[] one : wrong) {
            String what = one[1] + " is " + one[2] + " behind " + one[0];
            Edge.due(what, -1, () -> Edge.lively().note(one[0], one[1], one[2]));
            Edge.leaves(what, 2, y -> y.note(one[0], one[1], one[2]));
        }
        int[][] good = {{0, 0, 0}, {60, 255, 255}, {0, 255, 0}, {60, 0, 255}, {59, 1, 1}, {1, 254, 254}, {0, 0, 0}, {0, 0, 1}};
        NibbleEngine x = new NibbleEngine();
        for (int i = 0; i < 8; i++) {
            int many = i;
            Edge.due("the one " + (i + 1), many + 1, () -> x.note(good[many][0], good[many][1], good[many][2]));
        }
        Edge.due("no STATUS", 0, () -> x.count(14));
        Edge.due("there are 8", -1, () -> x.note(0, 0, 0));
        Edge.due("there are 8 yet", 8, () -> x.count(10));
        Edge.due("STATUS 2", 1, () -> x.count(14));
        Edge.leaves("there are 8", 2, y -> {
            for (int i = 0; i < 6; i++) {
                y.note(0, 0, 1);
            }
        }, y -> y.note(0, 0, 0));
    }

    private static void blames(String what, NibbleEngine x, int place, int length, int... due) {
        for (int i = 0; i < 3; i++) {
            int asked = i;
            Edge.due(what + ", " + i, due[i], () -> x.blamed(place, length, asked));
        }
    }

    private static void blamed() {
        Edge.says("Terms 3", "BLAMED: HALVES of a FIELD (LENGTH 1 to 3), by one of which, did it hold another number "
                + "now, all NOTED would be so, if no STEP goes by behind the first FAULT: how many HALVES and "
                + "numbers; the first, as for CHANGED");
        NibbleEngine x = Check.told("at 0 #55;copy 9:1 0;halt;");
        blames("nothing is NOTED, one byte", x, 0, 1, 30, 0, 1);
        blames("nothing is NOTED, two bytes", x, 0, 2, 60, 0, 1);
        blames("nothing is NOTED, three bytes", x, 253, 3, 90, 50601, 1);
        x.note(1, 9, 0x57);
        blames("one number of one HALF", x, 0, 1, 1, 107, 0);
        blames("of three bytes", x, 0, 3, 1, 107, 0);
        blames("not by others", x, 1, 3, 0, -1, 0);
        x.note(0, 9, 0);
        blames("two are so", x, 0, 1, 1, 107, 0);
        x.note(0, 0, 0x55);
        blames("the third one can't be", x, 0, 1, 0, -1, 0);
        NibbleEngine last = Check.told("at 255 #55;copy 9:1 255;halt;");
        last.note(1, 9, 0x5f);
        blames("the last HALF, by 15", last, 253, 3, 1, 51115, 0);
        NibbleEngine first = Check.told("at 0 #55;copy 9:1 0;halt;");
        first.note(1, 9, 0x05);
        blames("the first HALF, by 0", first, 0, 3, 1, 0, 0);
        NibbleEngine now = Check.told("copy 0:1 9;halt;");
        now.note(0, 0, 0x40);
        blames("behind 0 STEPS", now, 0, 1, 1, 4, 0);
        now.forget();
        now.note(1, 0, 0x40);
        blames("behind 1 it is laid over", now, 0, 1, 0, -1, 0);
        NibbleEngine both = Check.told("halt;");
        both.note(0, 0, 0x11);
        blames("two HALVES at once aren't blamed", both, 0, 1, 0, -1, 0);
        NibbleEngine so = Check.told("at 0 #11;halt;");
        so.note(0, 0, 0x11);
        blames("the number that it does hold isn't another one", so, 0, 1, 0, -1, 1);
        blames("a byte that isn't NOTED", so, 1, 1, 30, 201, 1);
    }

    private static void blamedFaults() {
        Edge.says("Terms 3", "whether it is so without (1; no STEP behind the first FAULT, either).");
        NibbleEngine x = Check.told("at 6 #77;guard 1 g;test 255:2;halt;g:copy 5:1 6;copy 4:1 6;");
        x.note(3, 5, 0x77);
        Edge.due("no STEP behind a GUARDED FAULT", 0, () -> x.blamed(9, 1, 2));
        x.forget();
        x.note(60, 5, 0);
        Edge.due("it stays as it is ahead", 1, () -> x.blamed(9, 1, 2));
        blames("by others, too", x, 9, 1, 30, 1801, 1);
        NibbleEngine done = Check.told("at 0 #9c;at 6 #77;guard 6 g;add 0:1 0:1;halt;g:copy 5:1 6;");
        done.note(9, 0, 0x8c);
        Edge.due("what the FAULT itself did is so", 1, () -> done.blamed(9, 1, 2));
        done.note(9, 5, 0x77);
        Edge.due("but nothing behind it", 0, () -> done.blamed(9, 1, 2));
        // spoilt so that there is no FAULT, STEPS go on
        NibbleEngine mended = Check.told("at 0 #ac;at 6 #77;shift 0:1 0 0;copy 5:1 6;");
        mended.note(2, 5, 0x77);
        blames("without the FAULT", mended, 0, 1, 10, 0, 0);
    }

    private static void promise32() {
        Edge.says("Promise 32", "BLAMED: how many (what 0), the first (1; NONE: none), whether without (2). "
                + "NoSuchElementException: another what. IllegalArgumentException (behind that): LENGTH not 1 to 3, "
                + "not all in the STORE.");
        NibbleEngine x = Check.told("a:on 15 a;");
        for (int length = 1; length <= 3; length++) {
            int many = length;
            Edge.due(length + " at the first PLACE", 30 * length, () -> x.blamed(0, many, 0));
            Edge.due(length + " at the last PLACE", 30 * length, () -> x.blamed(256 - many, many, 0));
            for (int place : new int[] {-1, 257 - length, 256, Bench.LEAST, Bench.MOST}) {
                for (int what = 0; what < 3; what++) {
                    int asked = what;
                    Edge.illegal(length + " at " + place + ", what " + what, () -> x.blamed(place, many, asked));
                }
                Edge.asks(length + " at " + place, y -> y.blamed(place, many, 0));
            }
        }
        for (int length : new int[] {0, -1, 4, 5, 16, Bench.LEAST, Bench.MOST}) {
            Edge.illegal("LENGTH " + length, () -> x.blamed(0, length, 2));
            Edge.asks("LENGTH " + length, y -> y.blamed(0, length, 2));
        }
        for (int what : new int[] {-1, 3, 4, Bench.LEAST, Bench.MOST}) {
            Edge.none("what " + what, () -> x.blamed(0, 1, what));
            Edge.none("what " + what + " is ahead of LENGTH", () -> x.blamed(0, 0, what));
            Edge.none("what " + what + " is ahead of the PLACE", () -> x.blamed(-1, 1, what));
            Edge.asks("what " + what, y -> y.blamed(0, 1, what));
        }
        x.note(0, 0, 0x11);
        Edge.due("none", -1, () -> x.blamed(0, 1, 1));
        Edge.due("none: how many", 0, () -> x.blamed(0, 1, 0));
        Edge.asks("blamed", y -> y.blamed(0, 3, 0));
    }

    private static void promise33() {
        Edge.says("Promise 33", "All that is NOTED is forgotten.");
        NibbleEngine none = new NibbleEngine();
        none.forget();
        Edge.alike("of none", none, new NibbleEngine());
        NibbleEngine x = Check.told("halt;");
        for (int i = 0; i < 8; i++) {
            x.note(60, 0, 1);
        }
        Edge.due("it isn't so", 0, () -> x.blamed(5, 1, 2));
        x.forget();
        Edge.due("none is NOTED", 0, () -> x.count(10));
        Edge.due("all is so", 1, () -> x.blamed(5, 1, 2));
        for (int i = 1; i <= 8; i++) {
            int due = i;
            Edge.due("room for " + i, due, () -> x.note(0, 0, 0));
        }
        Edge.due("and no more", -1, () -> x.note(0, 0, 0));
        Edge.due("the new ones alone count", 1, () -> x.blamed(5, 1, 2));
        Edge.due("it is no ACT", 0, () -> x.count(9));
    }

    private static int seed;

    private static int draw(int n) {
        seed = (int) (seed * 1103515245L + 12345L);
        return (seed >> 16 & 0x7fff) % n;
    }

    /** What the years do to an empty PROGRAM: how often anew, how many bytes are unlike. */
    private static int[] emptyYears(int from, int n) {
        seed = from;
        int[] store = new int[256];
        int anew = 0;
        for (int i = 0; i < n; i++) {
            int happens = draw(3);
            if (happens == 0) {
                int place = draw(256);
                store[place] = draw(256);
            } else if (happens == 1) {
                anew++;
                store = new int[256];
            }
        }
        int unlike = 0;
        for (int held : store) {
            unlike += held == 0 ? 0 : 1;
        }
        return new int[] {0, anew, unlike};
    }

    private static void years() {
        Edge.says("Terms 3", "YEARS by a seed: n (0 to 20) times: a DRAW of 3: 0 a byte is LAID, at a DRAW of 256, a "
                + "DRAW of 256 (drawn in this order); 1 it BEGINS anew, if it doesn't RUN; 2 nothing; then 5 STEPS: "
                + "how many FAULTS in all; how often it began anew; how many bytes are unlike at the end of all, as "
                + "against now. (All as ever behind it.)");
        NibbleEngine empty = new NibbleEngine();
        NibbleEngine loop = Check.told("guard 1 b;b:test 255:2;");
        NibbleEngine once = Check.told("test 255:2;");
        for (int from : new int[] {0, 1, 2, 3, -1, 77, 4711, Bench.LEAST, Bench.MOST}) {
            for (int n : new int[] {0, 1, 2, 19, 20}) {
                int[] due = emptyYears(from, n);
                for (int what = 0; what < 3; what++) {
                    int asked = what;
                    Edge.due("seed " + from + ", " + n + " years, " + what, due[what], () -> empty.years(from, n, asked));
                }
                Edge.due("5 STEPS a year", Math.max(0, 5 * n - 1), () -> loop.years(from, n, 0));
                Edge.due("it RUNS", 0, () -> loop.years(from, n, 1));
                int anew = once.years(from, n, 1);
                Edge.due("a FAULT whenever it began", n == 0 ? 0 : 1 + anew, () -> once.years(from, n, 0));
            }
        }
        NibbleEngine had = Check.told("guard 1 b;b:test 255:2;");
        had.steps(10);
        Edge.due("FAULTS that were don't count", 0, () -> had.years(1, 0, 0));
        Edge.due("nor with a year", 5, () -> had.years(1, 1, 0));
        // in 5 STEPS each of the first three quarters becomes what the last one is
        NibbleEngine copies = Check.told("a:copy 0:64 192;copy 64:64 192;copy 128:64 192;on 15 a;");
        for (int from = 0; from < 60; from++) {
            int one = from;
            int due = 4 * lastQuarter(from, 20);
            Edge.due("STEPS of the PROGRAM, seed " + from, due, () -> copies.years(one, 20, 2));
        }
    }

    /** How many bytes of the last quarter are laid otherwise than 0 in years that always RUN. */
    private static int lastQuarter(int from, int n) {
        seed = from;
        int[] store = new int[256];
        for (int i = 0; i < n; i++) {
            if (draw(3) == 0) {
                int place = draw(256);
                store[place] = draw(256);
            }
        }
        int unlike = 0;
        for (int place = 192; place < 256; place++) {
            unlike += store[place] == 0 ? 0 : 1;
        }
        return unlike;
    }

    private static void yearsDrawn() {
        Edge.says("Terms 3", "A seed becomes itself times 1103515245 and 12345 (an int that wraps); a DRAW of n is its "
                + "bits 16 to 30 MOD n then.");
        boolean[] seen = new boolean[3];
        for (int from = -40; from < 40; from++) {
            seed = from * 1000003;
            int start = seed;
            int happens = draw(3);
            int place = draw(256);
            int number = draw(256);
            seen[happens] = true;
            NibbleEngine x = new NibbleEngine();
            x.lay(place, 1);
            int unlike = happens == 0 ? number == 1 ? 0 : 1 : happens == 1 ? 1 : 0;
            Edge.due("seed " + start + " draws " + happens, happens == 1 ? 1 : 0, () -> x.years(start, 1, 1));
            Edge.due("seed " + start + ": the byte at " + place, unlike, () -> x.years(start, 1, 2));
            if (happens == 0) {
                NibbleEngine so = new NibbleEngine();
                so.lay(place, number == 0 ? 1 : 0);
                so.lay(place, number);
                Edge.due("seed " + start + ": the byte is so already", 0, () -> so.years(start, 1, 2));
                NibbleEngine copies = Check.told("copy 0:1 " + place + ";halt;");
                int due = number == 0 ? 0 : place == 0 ? 1 : 2;
                Edge.due("seed " + start + ": it is laid ahead of the STEPS", due, () -> copies.years(start, 1, 2));
            }
        }
        Edge.due("each was drawn", true, seen[0] && seen[1] && seen[2]);
    }

    private static void promise34() {
        Edge.says("Promise 34", "YEARS: FAULTS (what 0), how often anew (1), bytes unlike (2).");
        NibbleEngine fails = Check.told("at 0 #01;copy 1:1 0;test 255:2;");
        for (int n = 0; n <= 20; n++) {
            int many = n;
            int anew = fails.years(99, n, 1);
            Edge.due(n + " years: FAULTS", n == 0 ? 0 : anew + 1, () -> fails.years(99, many, 0));
            Edge.due(n + " years: a byte of the STEPS at least", n == 0 ? 0 : 1, () -> Math.min(1, fails.years(99, many, 2)));
        }

        Edge.says("Promise 34", "NoSuchElementException: another what. IllegalArgumentException (behind that): n.");
        NibbleEngine x = Check.told("halt;");
        for (int what = 0; what < 3; what++) {
            int asked = what;
            Edge.due("0 years", 0, () -> x.years(5, 0, asked));
            Edge.due("20 years", 1, () -> x.years(5, 20, asked) >= 0 ? 1 : 0);
            for (int n : new int[] {-1, 21, 22, Bench.LEAST, Bench.MOST}) {
                Edge.illegal(n + " years", () -> x.years(5, n, asked));
                Edge.asks(n + " years", y -> y.years(5, n, asked));
            }
        }
        for (int what : new int[] {-1, 3, 4, Bench.LEAST, Bench.MOST}) {
            Edge.none("what " + what, () -> x.years(5, 1, what));
            Edge.none("what " + what + " is ahead of n below", () -> x.years(5, -1, what));
            Edge.none("what " + what + " is ahead of n above", () -> x.years(5, 21, what));
            Edge.asks("what " + what, y -> y.years(5, 1, what));
        }
    }

    private static void allAsEver() {
        Edge.says("Terms 3", "(All as ever behind it.)");
        Edge.asks("years", y -> y.years(5, 20, 0));
        Edge.asks("years, once more", y -> y.years(-7, 20, 2));

        Edge.says("Terms 3", "(If only STEPS go by, from now on:)");
        Edge.asks("then", y -> y.then(100, 0));
        Edge.asks("holds", y -> y.holds(100, 1));
        Edge.asks("where", y -> y.where(100, 2));
        Edge.asks("faults", y -> y.faults(4));
        Edge.asks("changes", y -> y.changes(255));
    }
}
