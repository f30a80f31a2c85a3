/** Each sentence that names an edge of ACTS, TRACE and DONE (Terms, 2), of promises 17 to 22, 35 and 36. */
public final class ActEdgeTest {
    private static final String TERMS = "Terms 2";

    public static void main(String[] args) {
        acts();
        stepsGoBy();
        laidAndSet();
        nextSet();
        beginsAnew();
        undone();
        traces();
        doneOften();
        promise17();
        promise17Time();
        promise18();
        promise19();
        promise20();
        promise21();
        promise22();
        promise35();
        promise36();
        image();
        Edge.end("ActEdgeTest");
    }

    private static void acts() {
        Edge.says(TERMS, "ACTS (at most 40 are kept, the latest ones");
        for (int many : new int[] {0, 1, 39, 40, 41, 42, 80, 81}) {
            NibbleEngine x = Check.told("halt;");
            for (int i = 1; i <= many; i++) {
                x.set(1, i);
            }
            int kept = Math.min(many, 40);
            Edge.due("kept of " + many, kept, () -> x.count(9));
            for (int i = 1; i <= kept; i++) {
                int gone = i;
                Edge.due("left behind " + i + " of " + many, kept - gone, () -> x.undo());
                Edge.due("as ahead of it", many - gone, () -> x.register(1));
            }
            Edge.due("none is left of " + many, -1, () -> x.undo());
            Edge.due("the others stay", many - kept, () -> x.register(1));
        }

        Edge.says(TERMS, "what its call doesn't refuse is one, also where all is as it was)");
        NibbleEngine x = Check.told("a:on 15 a;");
        Edge.due("begin where it is so", 0, () -> x.begin());
        Edge.due("is one", 1, () -> x.count(9));
        Edge.due("next where it is so", 0, () -> x.next(0));
        Edge.due("is one, too", 2, () -> x.count(9));
        x.lay(0, 0);
        x.set(0, 0);
        x.steps(0);
        x.next(2);
        Edge.due("what is refused is none", 2, () -> x.count(9));
        Edge.due("undone", 1, () -> x.undo());
        Edge.due("undone, too", 0, () -> x.undo());
        NibbleEngine others = Edge.lively();
        int many = others.count(9);
        others.note(0, 0, 0);
        others.forget();
        others.image();
        others.restore();
        others.feed(0, 0, 0, 0, 0);
        others.years(1, 20, 0);
        others.then(1, 0);
        Check.program(others, "?");
        Edge.due("other calls are none", many, () -> others.count(9));
    }

    private static void stepsGoBy() {
        Edge.says(TERMS, "STEPS go by (1 to 50; fewer, where it doesn't RUN any more)");
        NibbleEngine x = Check.told(Bench.times("plus %1 1;", 59) + "halt;");
        Edge.due("50 of 60", 50, () -> x.steps(50));
        Edge.due("it RUNS", 0, () -> x.count(1));
        Edge.due("9 more", 9, () -> x.steps(9));
        Edge.due("it RUNS yet", 0, () -> x.count(1));
        Edge.due("1 of 50", 1, () -> x.steps(50));
        Edge.due("HALTED", 1, () -> x.count(1));
        Edge.due("59 were 'plus'", 59, () -> x.register(1));
        Edge.due("TIME", 60, () -> x.count(0));
        NibbleEngine exactly = Check.told(Bench.times("plus %1 1;", 50));
        Edge.due("50 of 50", 50, () -> exactly.steps(50));
        Edge.due("HALTED behind the last one", 1, () -> exactly.count(1));
        NibbleEngine fails = Check.told(Bench.times("plus %1 1;", 48) + "test 255:2;back;");
        Edge.due("the one with the FAULT is one", 49, () -> fails.steps(50));
        Edge.due("FAILED", 2, () -> fails.count(1));
    }

    private static void laidAndSet() {
        Edge.says(TERMS, "a byte is LAID, a REGISTER SET by hand");
        NibbleEngine x = Check.told("at 0 #1c;guard 1 g;test 255:2;g:add 0:1 0:1;");
        x.steps(2);
        x.lay(0, 0x3c);
        x.set(7, 8);
        Edge.due("NEXT stays", 2, () -> x.count(2));
        Edge.due("OLD stays", 1, () -> x.count(4));
        Edge.due("CC stays", 0, () -> x.count(3));
        Edge.due("TIME stays", 2, () -> x.count(0));
        Edge.due("the GUARD stays", 2, () -> x.guard(1));
        x.steps(1);
        Edge.due("the byte that is LAID counts", 0x6c, () -> x.at(0));
        NibbleEngine failed = Check.told("test 255:2;");
        failed.steps(1);
        Edge.due("in an object that has FAILED", 0, () -> failed.lay(9, 9));
        Edge.due("a REGISTER, too", true, failed.set(1, 1));
        Edge.due("it has FAILED yet", 2, () -> failed.count(1));
    }

    private static void nextSet() {
        Edge.says(TERMS, "NEXT is SET (any INSTRUCTION, or the place behind the last one: it is 0 or 1 then)");
        NibbleEngine x = Check.told("test 255:2;plus %1 1;halt;");
        for (int i = 0; i <= 3; i++) {
            int to = i;
            Edge.due("to " + i, to < 3 ? 0 : 1, () -> x.next(to));
            Edge.due("NEXT", to, () -> x.count(2));
            Edge.due("the state", to < 3 ? 0 : 1, () -> x.count(1));
        }
        x.next(0);
        x.steps(1);
        Edge.due("FAILED", 2, () -> x.count(1));
        Edge.due("to the same one it RUNS", 0, () -> x.next(0));
        x.steps(1);
        Edge.due("behind the last one it is HALTED, not FAILED", 1, () -> x.next(3));
        Edge.due("HALTED, it RUNS again", 0, () -> x.next(2));
        x.steps(1);
        Edge.due("behind 'halt', which is the last one", 1, () -> x.next(3));
        NibbleEngine empty = new NibbleEngine();
        Edge.due("without INSTRUCTIONS", 1, () -> empty.next(0));
    }

    private static void beginsAnew() {
        Edge.says(TERMS, "it BEGINS anew (all is as behind the TEXT, but TIME, FAULTS, WHY, TRACE, DONE)");
        String text = "at 0 #1cab;at 255 #77;guard 1 g;add 0:1 0:1;test 255:2;halt;g:load %3 9;test 255:2;";
        NibbleEngine x = Check.told(text);
        x.lay(255, 1);
        x.lay(100, 2);
        x.set(7, -1);
        x.steps(4);
        x.next(2);
        x.steps(1);
        Edge.due("the state", 0, () -> x.begin());
        NibbleEngine fresh = Check.told(text);
        for (int place : new int[] {0, 1, 2, 100, 254, 255}) {
            Edge.due("the byte at " + place, fresh.at(place), () -> x.at(place));
        }
        for (int i = 0; i < 8; i++) {
            int which = i;
            Edge.due("REGISTER " + i, 0, () -> x.register(which));
            Edge.due("GUARD " + (i + 1), -1, () -> x.guard(which + 1));
        }
        int[] due = {5, 0, 0, 0, -1, 6, 2, 2, 5};
        for (int i = 0; i < due.length; i++) {
            int what = i;
            Edge.due("count " + i, due[i], () -> x.count(what));
        }
        Edge.due("WHY stays", 4, () -> x.why(0, 2));
        Edge.due("TRACE stays", 2, () -> x.trace(0));
        Edge.due("the first of TRACE stays", 0, () -> x.trace(4));
        Edge.due("DONE stays", 2, () -> x.done(2));
        NibbleEngine empty = new NibbleEngine();
        empty.lay(5, 5);
        Edge.due("without INSTRUCTIONS", 1, () -> empty.begin());
        Edge.due("and without a TEXT's bytes", 0, () -> empty.at(5));
    }

    private static void undone() {
        Edge.says(TERMS, "They are UNDONE, the last one first.");
        NibbleEngine x = Check.told("at 0 #1c;guard 1 g;add 0:1 0:1;test 255:2;halt;g:load %3 9;test 255:2;");
        String[] seen = new String[8];
        for (int act = 0; act < 7; act++) {
            seen[act] = seen(x);
            switch (act) {
                case 0: x.lay(40, 4); break;
                case 1: x.set(2, 2); break;
                case 2: x.steps(4); break;
                case 3: x.next(5); break;
                case 4: x.steps(1); break;
                case 5: x.begin(); break;
                default: x.lay(40, 9); break;
            }
        }
        for (int act = 6; act >= 0; act--) {
            int left = act;
            Edge.due("left", left, () -> x.undo());
            String got = seen(x);
            Edge.due("as ahead of the ACT " + act + ": " + got + ", due is " + seen[act], true, got.equals(seen[act]));
        }
        Edge.due("none is left", -1, () -> x.undo());
    }

    /** What ACTS change, as far as this PROGRAM goes. */
    private static String seen(NibbleEngine x) {
        StringBuilder row = new StringBuilder();
        for (int what : new int[] {0, 1, 2, 3, 4, 6, 7, 8}) {
            row.append(x.count(what)).append(' ');
        }
        row.append(x.at(0)).append(' ').append(x.at(40)).append(' ').append(x.register(2)).append(' ').append(x.register(3));
        row.append(' ').append(x.guard(1)).append(' ').append(x.done(2));
        if (x.count(6) > 0) {
            row.append(' ').append(x.why(0, 1)).append(' ').append(x.why(0, 2));
        }
        if (x.count(8) > 0) {
            row.append(' ').append(x.trace(0)).append(' ').append(x.trace(x.count(8) - 1));
        }
        return row.toString();
    }

    private static void traces() {
        Edge.says(TERMS, "TRACE: the latest 64 INSTRUCTIONS that STEPS did, those with FAULTS, too.");
        for (int many : new int[] {1, 62, 63, 64, 65, 66, 127, 128, 129}) {
            NibbleEngine x = Check.told("a:plus %1 1;plus %2 1;on 15 a;");
            for (int i = 0; i < many; i++) {
                x.steps(1);
            }
            int has = Math.min(64, many);
            Edge.due("it has, of " + many, has, () -> x.count(8));
            Edge.due("the latest of " + many, (many - 1) % 3, () -> x.trace(0));
            Edge.due("the first that it has of " + many, (many - has) % 3, () -> x.trace(has - 1));
            Edge.none("none behind it of " + many, () -> x.trace(has));
        }
        NibbleEngine faults = Check.told("guard 1 g;g:test 255:2;test 255:2;");
        faults.steps(2);
        Edge.due("a FAULT that is GUARDED", 1, () -> faults.trace(0));
        NibbleEngine failed = Check.told("plus %1 1;test 255:2;");
        failed.steps(2);
        Edge.due("a FAULT that isn't", 1, () -> failed.trace(0));
        Edge.due("and what was ahead of it", 0, () -> failed.trace(1));
    }

    private static void doneOften() {
        Edge.says(TERMS, "DONE: how often STEPS did each.");
        NibbleEngine x = Check.told("a:plus %1 1;on 15 a;test 255:2;halt;");
        int[] due = {0, 0, 0, 0};
        for (int i = 0; i < 7; i++) {
            for (int j = 0; j < 4; j++) {
                int which = j;
                Edge.due("behind " + i, due[which], () -> x.done(which));
            }
            due[i % 2]++;
            x.steps(1);
        }
        x.next(2);
        x.steps(1);
        Edge.due("with a FAULT", 1, () -> x.done(2));
        x.then(5, 0);
        x.years(1, 20, 0);
        Edge.due("not by what would come", 4, () -> x.done(0));
        NibbleEngine last = Check.told(Bench.times("back;", 60));
        last.next(59);
        last.steps(1);
        Edge.due("the 60th", 1, () -> last.done(59));
        Edge.due("the 59th", 0, () -> last.done(58));
    }

    private static void promise17() {
        Edge.says("Promise 17", "STEPS go by: how many.");
        NibbleEngine three = Check.told("back;back;halt;");
        Edge.due("one", 1, () -> three.steps(1));
        Edge.due("two of fifty", 2, () -> three.steps(50));
        Edge.due("TIME", 3, () -> three.count(0));

        Edge.says("Promise 17", "NONE (STATUS 1): it doesn't RUN, not 1 to 50, TIME and so many are above 20000.");
        int[] wrong = {0, -1, 51, 52, 100, Bench.LEAST, Bench.MOST};
        for (int many : wrong) {
            NibbleEngine x = Check.told("a:on 15 a;");
            Edge.due(many + " STEPS", -1, () -> x.steps(many));
            Edge.due(many + " STEPS: no TIME", 0, () -> x.count(0));
            NibbleEngine running = Check.told("a:on 15 a;");
            running.steps(many);
            Edge.due(many + " STEPS: STATUS", 1, () -> running.count(13));
            Edge.due(many + " STEPS: no ACT", 0, () -> running.count(9));
            Edge.due(many + " STEPS: no TRACE", 0, () -> running.count(8));
        }
        for (int many : new int[] {1, 2, 49, 50}) {
            NibbleEngine x = Check.told("a:on 15 a;");
            Edge.due(many + " STEPS", many, () -> x.steps(many));
            Edge.due(many + " STEPS: no STATUS", 0, () -> x.count(13));
            Edge.due(many + " STEPS: an ACT", 1, () -> x.count(9));
        }
        for (int many : wrong) {
            Edge.leaves("steps " + many, 1, y -> y.steps(many));
        }
        Edge.leaves("it is HALTED", 1, y -> y.next(7), y -> y.steps(1));
        NibbleEngine halted = Check.told("halt;halt;");
        halted.steps(1);
        Edge.due("it is HALTED", -1, () -> halted.steps(1));
        NibbleEngine fault = Check.told("test 255:2;halt;");
        fault.steps(1);
        Edge.due("it FAILED", -1, () -> fault.steps(1));
        Edge.due("STATUS", 1, () -> fault.count(13));
        Edge.due("no TIME", 1, () -> fault.count(0));
        Edge.due("no ACT", 1, () -> fault.count(9));
        Edge.due("an empty PROGRAM", -1, () -> new NibbleEngine().steps(1));
    }

    private static void promise17Time() {
        Edge.says("Promise 17", "TIME and so many are above 20000.");
        NibbleEngine x = Check.told("a:plus %1 1;on 15 a;");
        for (int i = 0; i < 399; i++) {
            x.steps(50);
        }
        Edge.due("TIME", 19950, () -> x.count(0));
        Edge.due("19951", 1, () -> x.steps(1));
        Edge.due("20001", -1, () -> x.steps(50));
        Edge.due("20000", 49, () -> x.steps(49));
        Edge.due("TIME is the last", 20000, () -> x.count(0));
        Edge.due("20001, by one", -1, () -> x.steps(1));
        Edge.due("STATUS", 2, () -> x.count(13));
        Edge.due("ACTS", 40, () -> x.count(9));
        Edge.due("it RUNS", 0, () -> x.count(1));
        Edge.due("what would come goes on", 10050, () -> x.holds(100, 1));
        Edge.due("undone", 39, () -> x.undo());
        Edge.due("TIME is back", 19951, () -> x.count(0));
        Edge.due("20000 again", 49, () -> x.steps(49));
        x.undo();
        Edge.due("19999", 48, () -> x.steps(48));
        Edge.due("20000 by one", 1, () -> x.steps(1));
        NibbleEngine halting = Check.told("a:on 15 a;halt;");
        for (int i = 0; i < 399; i++) {
            halting.steps(50);
        }
        halting.steps(49);
        halting.next(1);
        Edge.due("above it, though fewer would go by", -1, () -> halting.steps(2));
        Edge.due("one has room", 1, () -> halting.steps(1));
    }

    private static void promise18() {
        Edge.says("Promise 18", "A byte is LAID: what was there.");
        NibbleEngine was = Check.told("at 0 #ff;at 255 #01;");
        Edge.due("255", 255, () -> was.lay(0, 0));
        Edge.due("0", 0, () -> was.lay(0, 255));
        Edge.due("1", 1, () -> was.lay(255, 2));
        Edge.bytes("so it stands", "ff0000", was, 0);
        Edge.bytes("and so", "0002", was, 254);

        Edge.says("Promise 18", "NONE (STATUS 1): no such PLACE, not 0 to 255, it is so.");
        int[][] wrong = {{-1, 1}, {256, 1}, {Bench.LEAST, 1}, {Bench.MOST, 1}, {3, -1}, {3, 256}, {3, Bench.LEAST}, {3, Bench.MOST},
            {3, 0}, {20, 3}, {255, 0}, {256, 256}};
        for (int[] one : wrong) {
            NibbleEngine x = Edge.lively();
            Edge.due(one[1] + " at " + one[0], -1, () -> x.lay(one[0], one[1]));
            Edge.leaves(one[1] + " at " + one[0], 1, y -> y.lay(one[0], one[1]));
        }
        NibbleEngine x = Edge.lively();
        int refused = x.count(13);
        Edge.due("the first PLACE, 0", 1, () -> x.lay(0, 0));
        Edge.due("the last PLACE, 255", 0, () -> x.lay(255, 255));
        Edge.due("254", 255, () -> x.lay(255, 254));
        Edge.due("it is so", -1, () -> x.lay(255, 254));
        Edge.due("1", 0, () -> x.lay(0, 1));
        Edge.due("one was refused", refused + 1, () -> x.count(13));
    }

    private static void promise19() {
        Edge.says("Promise 19", "A REGISTER is SET: true.");
        NibbleEngine set = new NibbleEngine();
        for (int which = 0; which < 8; which++) {
            int one = which;
            Edge.due("REGISTER " + which, true, set.set(which, which - 4 == 0 ? Bench.LEAST : which - 4));
            Edge.due("it holds", which - 4 == 0 ? Bench.LEAST : which - 4, () -> set.register(one));
        }

        Edge.says("Promise 19", "False (STATUS 1): no such one, it is so.");
        int[][] wrong = {{-1, 5}, {8, 5}, {Bench.LEAST, 5}, {Bench.MOST, 5}, {0, 0}, {5, -5}, {7, 0}};
        for (int[] one : wrong) {
            NibbleEngine x = Edge.lively();
            Edge.due("REGISTER " + one[0] + " to " + one[1], false, x.set(one[0], one[1]));
            Edge.leaves("REGISTER " + one[0] + " to " + one[1], 1, y -> y.set(one[0], one[1]));
        }
        NibbleEngine x = Edge.lively();
        int refused = x.count(13);
        for (int which : new int[] {0, 7}) {
            for (int number : new int[] {Bench.MOST, Bench.LEAST, -1, 0}) {
                Edge.due(number + " in " + which, true, x.set(which, number));
                Edge.due(number + " stands in " + which, number, () -> x.register(which));
                Edge.due(number + " is so in " + which, false, x.set(which, number));
            }
        }
        Edge.due("eight were refused", refused + 8, () -> x.count(13));
    }

    private static void promise20() {
        Edge.says("Promise 20", "NEXT is SET: the state.");
        NibbleEngine set = Check.told("back;test 255:2;");
        Edge.due("it RUNS", 0, () -> set.next(1));
        set.steps(1);
        Edge.due("it RUNS, FAILED as it had", 0, () -> set.next(1));
        Edge.due("HALTED", 1, () -> set.next(2));
        Edge.due("so it is", 1, () -> set.count(1));

        Edge.says("Promise 20", "NONE (STATUS 1): not 0 to as many as INSTRUCTIONS are.");
        for (int to : new int[] {-1, 8, 9, 60, Bench.LEAST, Bench.MOST}) {
            NibbleEngine x = Edge.lively();
            Edge.due("to " + to, -1, () -> x.next(to));
            Edge.leaves("to " + to, 1, y -> y.next(to));
        }
        NibbleEngine x = Edge.lively();
        Edge.due("to 0", 0, () -> x.next(0));
        Edge.due("to the last one", 0, () -> x.next(6));
        Edge.due("to as many", 1, () -> x.next(7));
        NibbleEngine empty = new NibbleEngine();
        Edge.due("of none: 0", 1, () -> empty.next(0));
        Edge.due("of none: 1", -1, () -> empty.next(1));
        NibbleEngine full = Check.told(Bench.times("back;", 60));
        Edge.due("of 60: 59", 0, () -> full.next(59));
        Edge.due("of 60: 60", 1, () -> full.next(60));
        Edge.due("of 60: 61", -1, () -> full.next(61));
    }

    private static void promise21() {
        Edge.says("Promise 21", "It BEGINS anew: the state.");
        Edge.due("with INSTRUCTIONS", 0, () -> Check.told("halt;").begin());
        Edge.due("without", 1, () -> new NibbleEngine().begin());
        NibbleEngine x = Check.told("halt;test 255:2;");
        x.steps(1);
        Edge.due("HALTED", 0, () -> x.begin());
        x.next(1);
        x.steps(1);
        Edge.due("FAILED", 0, () -> x.begin());
        Edge.due("it is never refused", 0, () -> x.count(13));
        Edge.due("nor does it ask for TIME", 2, () -> x.count(0));
    }

    private static void promise22() {
        Edge.says("Promise 22", "The last ACT is UNDONE: how many are left. NONE: there is none.");
        NibbleEngine none = new NibbleEngine();
        Edge.due("there is none", -1, () -> none.undo());
        Edge.due("no STATUS", 0, () -> none.count(13));
        NibbleEngine one = new NibbleEngine();
        one.lay(0, 1);
        Edge.due("of one", 0, () -> one.undo());
        Edge.due("of none", -1, () -> one.undo());
        Edge.due("it is undone", 0, () -> one.at(0));
        one.lay(0, 2);
        Edge.due("there is one again", 0, () -> one.undo());
        NibbleEngine lively = Edge.lively();
        NibbleEngine other = Edge.lively();
        for (int i = other.count(9); i > 0; i--) {
            lively.undo();
            other.undo();
        }
        Edge.due("there is none any more", -1, () -> lively.undo());
        Edge.alike("behind an undo of none, and without", lively, other);
        NibbleEngine forty = new NibbleEngine();
        for (int i = 0; i < 41; i++) {
            forty.set(0, i + 1);
        }
        Edge.due("of 41", 39, () -> forty.undo());
        Edge.due("the 41st", 40, () -> forty.register(0));
        forty.set(0, 77);
        Edge.due("of 40 again", 39, () -> forty.undo());
        Edge.due("the 40th", 40, () -> forty.register(0));
    }

    private static void promise35() {
        Edge.says("Promise 35", "AN IMAGE is kept, in place of another one.");
        NibbleEngine x = new NibbleEngine();
        for (int i = 1; i <= 3; i++) {
            int number = i;
            x.lay(0, number);
            x.image();
            x.lay(0, 9);
            Edge.due("the image " + i, true, x.restore());
            Edge.due("what it kept " + i, number, () -> x.at(0));
        }
        Edge.due("the last one stays", true, x.restore());
        Edge.due("what it kept", 3, () -> x.at(0));
        Edge.due("no STATUS", 0, () -> x.count(12) + x.count(13) + x.count(14));
    }

    private static void promise36() {
        Edge.says("Promise 36", "It is as the IMAGE again: true. False: there is none.");
        NibbleEngine none = new NibbleEngine();
        Edge.due("there is none", false, none.restore());
        none.image();
        Edge.due("there is one", true, none.restore());
        Edge.due("and stays", true, none.restore());
        none.program(0);
        Edge.due("a PROGRAM takes it", false, none.restore());
        none.image();
        Check.program(none, "?");
        Edge.due("a TEXT with a FAULT doesn't", true, none.restore());
        NibbleEngine x = Check.told("halt;");
        x.lay(1, 1);
        NibbleEngine y = Check.told("halt;");
        y.lay(1, 1);
        Edge.due("without one all stays", false, x.restore());
        Edge.alike("refused, and not", x, y);
    }

    private static void image() {
        Edge.says("Terms 3", "AN IMAGE keeps all that STEPS and ACTS change (WHY, TRACE, DONE, too), ACTS that are "
                + "kept, what is NOTED, STATUS.");
        NibbleEngine x = Edge.lively();
        x.image();
        x.lay(30, 30);
        x.set(3, 3);
        x.next(0);
        x.steps(3);
        x.note(7, 7, 7);
        x.lay(-1, 0);
        x.note(-1, 0, 0);
        x.begin();
        x.undo();
        x.forget();
        x.restore();
        NibbleEngine other = Edge.lively();
        other.image();
        for (int i = 12; i < 15; i++) {
            int what = i;
            Edge.due("STATUS", other.count(what), () -> x.count(what));
        }
        Edge.alike("as it was", x, other);
        NibbleEngine noted = Check.told("a:on 15 a;");
        noted.note(0, 0, 0);
        noted.note(60, 9, 0);
        noted.image();
        Edge.due("so it is", 1, () -> noted.blamed(5, 1, 2));
        noted.forget();
        noted.note(0, 0, 1);
        noted.note(1, 1, 1);
        noted.note(2, 2, 2);
        Edge.due("so it isn't", 0, () -> noted.blamed(5, 1, 2));
        noted.restore();
        Edge.due("what was NOTED", 2, () -> noted.count(10));
        Edge.due("so it is again", 1, () -> noted.blamed(5, 1, 2));
        noted.lay(9, 1);
        Edge.due("the second one, too", 0, () -> noted.blamed(5, 1, 2));
        // forty ACTS, a full row of what is NOTED, a full TRACE
        NibbleEngine full = full();
        full.image();
        for (int i = 0; i < 45; i++) {
            full.next(i % 2);
        }
        full.forget();
        full.steps(1);
        full.restore();
        NibbleEngine same = full();
        Edge.due("40 ACTS", 40, () -> full.count(9));
        Edge.due("8 NOTED", 8, () -> full.count(10));
        Edge.due("no room for another", -1, () -> full.note(0, 0, 0));
        for (int i = 0; i < 64; i++) {
            int which = i;
            Edge.due("TRACE " + i, same.trace(which), () -> full.trace(which));
        }
        for (int i = 39; i >= 0; i--) {
            int left = i;
            Edge.due("undone", left, () -> full.undo());
            same.undo();
            Edge.due("TIME", same.count(0), () -> full.count(0));
            Edge.due("REGISTER", same.register(1), () -> full.register(1));
        }
        Edge.due("none is left", -1, () -> full.undo());

        Edge.says("Terms 3", "STATUS: how many calls were refused: 0 TEXTS with a FAULT, 1 ACTS, 2 what is NOTED (not "
                + "counted where an exception tells it).");
        NibbleEngine counted = new NibbleEngine();
        for (int i = 1; i <= 3; i++) {
            int due = i;
            Check.program(counted, "?");
            counted.lay(0, 0);
            counted.note(0, 0, 256);
            for (int what = 12; what < 15; what++) {
                int asked = what;
                Edge.due("STATUS " + (what - 12), due, () -> counted.count(asked));
            }
        }
        Edge.illegal("an exception", () -> counted.program(1));
        Edge.none("another", () -> counted.at(256));
        counted.undo();
        counted.restore();
        for (int what = 12; what < 15; what++) {
            int asked = what;
            Edge.due("not counted, STATUS " + (what - 12), 3, () -> counted.count(asked));
        }
    }

    private static NibbleEngine full() {
        NibbleEngine x = Check.told("a:plus %1 1;on 15 a;");
        for (int i = 0; i < 69; i++) {
            x.steps(1);
        }
        for (int i = 0; i < 8; i++) {
            x.note(i, i, 0);
        }
        return x;
    }
}
