/** Each sentence of promises 1 to 5 that names an edge: a new object, the tape, TEXTS, their FAULTS, what is counted. */
public final class TapeEdgeTest {
    public static void main(String[] args) {
        face();
        promise1();
        promise2();
        promise2Order();
        promise3();
        promise3Fault();
        promise3Gone();
        promise3Refused();
        promise4();
        promise5();
        promise5Edges();
        Edge.end("TapeEdgeTest");
    }

    private static void face() {
        Edge.says("The constants", "The constants: `NONE = -1`: There is none.");
        Edge.due("NONE", -1, () -> NibbleEngine.NONE);

        Edge.says("What it is", "An object is used for at most 512 calls after it has been made; what later calls "
                + "answer is free.");
        NibbleEngine x = Check.told("a:plus %1 1;on 15 a;");
        for (int i = 0; i < 505; i++) {
            x.steps(1);
        }
        Edge.due("up to the 512th call: TIME", 505, () -> x.count(0));
        Edge.due("up to the 512th call: REGISTER", 253, () -> x.register(1));
        Edge.due("up to the 512th call: ACTS", 40, () -> x.count(9));
    }

    private static void promise1() {
        Edge.says("Promise 1", "The PROGRAM of an empty TEXT.");
        NibbleEngine empty = new NibbleEngine();
        Edge.due("an empty TEXT", 0, () -> empty.program(0));
        Edge.alike("a new object", new NibbleEngine(), empty);
        NibbleEngine blank = new NibbleEngine();
        Check.program(blank, " \n ");
        Edge.alike("and blanks alone", new NibbleEngine(), blank);
        NibbleEngine x = new NibbleEngine();
        Edge.due("HALTED", 1, () -> x.count(1));
        Edge.due("no STEPS", -1, () -> x.steps(1));
        Edge.due("NEXT is no INSTRUCTION", 0, () -> x.count(2));
        Edge.due("no INSTRUCTIONS", 0, () -> x.count(5));
        Edge.due("no FAULT of a TEXT", -1, () -> x.fault());
        Edge.none("no FAULT of a STEP", () -> x.why(0, 0));
        Edge.none("no INSTRUCTION is done", () -> x.done(0));
        Edge.none("no TRACE", () -> x.trace(0));
        Edge.due("no ACT", -1, () -> x.undo());
        Edge.due("no image", false, x.restore());
        Edge.due("an empty tape", 0, () -> x.count(11));
    }

    private static void promise2() {
        Edge.says("Promise 2", "NONE, and none come, if it would have more than 700.");
        NibbleEngine x = new NibbleEngine();
        for (int i = 1; i <= 35; i++) {
            int due = 20 * i;
            Edge.due("the feed " + i, due, () -> x.feed(0x20202020, 0x20202020, 0x20202020, 0x20202020, 0x20202020));
            Edge.due("the tape has so many", due, () -> x.count(11));
        }
        Edge.due("the 36th", -1, () -> x.feed(0x3f3f3f3f, 0x3f3f3f3f, 0x3f3f3f3f, 0x3f3f3f3f, 0x3f3f3f3f));
        Edge.due("once more", -1, () -> x.feed(0x3f3f3f3f, 0x3f3f3f3f, 0x3f3f3f3f, 0x3f3f3f3f, 0x3f3f3f3f));
        Edge.due("none came", 700, () -> x.count(11));
        Edge.illegal("nor are they there", () -> x.program(701));
        Edge.due("the first 700 stay", 0, () -> x.program(700));
        Edge.due("there is room again", 20, () -> x.feed(0, 0, 0, 0, 0));
        Edge.due("no STATUS", 0, () -> x.count(12) + x.count(13) + x.count(14));
        NibbleEngine refused = full();
        refused.feed(0x3f3f3f3f, 0, 0, 0, 0);
        Edge.alike("with a feed that is refused and without", refused, full());
    }

    /** A lively object with 700 bytes on its tape. */
    private static NibbleEngine full() {
        NibbleEngine x = Edge.lively();
        for (int i = 0; i < 34; i++) {
            x.feed(i, 0x20202020, 0x20202020, 0x20202020, i);
        }
        return x;
    }

    /** Each of the twenty bytes has its place, by its number and within it. */
    private static void promise2Order() {
        Edge.says("Promise 2", "Twenty bytes come behind the tape, of each number the highest first: how many it has");
        for (int strange = 0; strange < 40; strange++) {
            StringBuilder text = new StringBuilder(Bench.times(" ", 40));
            text.setCharAt(strange, '?');
            int place = strange;
            NibbleEngine x = new NibbleEngine();
            Check.feed(x, text.toString());
            Edge.due("a strange byte at " + strange, 1, () -> x.program(40));
            Edge.due("its place", place, () -> x.fault());
        }
        NibbleEngine x = new NibbleEngine();
        Edge.due("numbers below 0 have bytes above 127", 20, () -> x.feed(-1, Integer.MIN_VALUE, 0x7fffffff, -2, 0));
        Edge.due("the first byte is 255", 1, () -> x.program(20));
        Edge.due("at its place", 0, () -> x.fault());
    }

    private static void promise3() {
        Edge.says("Promise 3", "The tape's first n bytes (it is empty then) are a PROGRAM, all anew (TIME 0, no "
                + "FAULTS): 0 (STATUS stays)");
        NibbleEngine x = Edge.lively();
        int[] status = {x.count(12), x.count(13), x.count(14)};
        Edge.due("the first 5 of 20", 0, () -> x.program(5));
        Edge.due("it is empty then", 0, () -> x.count(11));
        int[] due = {0, 0, 0, 0, -1, 1, 0, 1, 0, 0, 0, 0};
        for (int i = 0; i < due.length; i++) {
            int what = i;
            Edge.due("count " + i, due[i], () -> x.count(what));
        }
        for (int i = 0; i < 3; i++) {
            int what = i;
            Edge.due("STATUS " + i, status[i], () -> x.count(12 + what));
        }
        Edge.due("TIME", 0, () -> x.count(0));
        Edge.none("no FAULTS", () -> x.why(0, 0));
        Edge.due("STORE", 0, () -> x.at(0) + x.at(8) + x.at(20) + x.at(21));
        Edge.due("REGISTERS", 0, () -> x.register(1) | x.register(2) | x.register(5));
        Edge.due("GUARDS", -1, () -> x.guard(1));
        Edge.none("TRACE", () -> x.trace(0));
        Edge.due("DONE", 0, () -> x.done(0));
        Edge.due("the TEXT has no FAULT", -1, () -> x.fault());
        // nothing of the INSTRUCTIONS and bytes that were is left
        NibbleEngine again = new NibbleEngine();
        for (int i = 0; i < 3; i++) {
            Check.program(again, "at 0 #1c1c;at 200 #77;add 9%3:16 9%3:16;add 9%3:16 9%3:16;a:guard 3 a;on 15 a;"
                    + "shift 5%2:9 -7 9;mark 0%1:64 0%1;");
        }
        Check.program(again, "edit 10:2 250;load %1 255;plus %2 3;on 0 a;a:guard 1;test 250:6;");
        Edge.due("bytes", 0, () -> again.at(0) + again.at(1) + again.at(200));
        again.set(3, 999);
        Edge.due("all are done", 6, () -> again.steps(50));
        Edge.due("without a FAULT", 0, () -> again.count(6));
        Edge.due("an ADDRESS", 255, () -> again.register(1));
        Edge.due("a NUMBER", 3, () -> again.register(2));
        Edge.due("no GUARD 1", -1, () -> again.guard(1));
        Edge.due("no GUARD 3", -1, () -> again.guard(3));
        NibbleEngine all = new NibbleEngine();
        Check.feed(all, "halt;               ");
        Edge.due("all 20 of 20", 0, () -> all.program(20));
        Check.feed(all, "halt;               ");
        Edge.due("none of 20", 0, () -> all.program(0));
        Edge.due("none of 20: no INSTRUCTIONS", 0, () -> all.count(5));
        Edge.due("none of 20: it is empty then", 0, () -> all.count(11));
        Check.feed(all, "halt;back;          ");
        Edge.due("4 of 20", 1, () -> all.program(4));
        Edge.due("4 of 20: it is empty then, too", 0, () -> all.count(11));
    }

    private static void promise3Fault() {
        Edge.says("Promise 3", "or the FAULT (all else stays, but STATUS)");
        NibbleEngine x = Edge.lively();
        NibbleEngine y = Edge.lively();
        Edge.due("a FAULT 1", 1, () -> x.program(3));
        Edge.due("its place", 3, () -> x.fault());
        Edge.due("STATUS", y.count(12) + 1, () -> x.count(12));
        Edge.due("the other STATUS", y.count(13), () -> x.count(13));
        Edge.due("the other STATUS, too", y.count(14), () -> x.count(14));
        // the place and the tape are what is unlike, so they are made alike
        y.program(3);
        Edge.alike("another object with it", x, y);
        NibbleEngine kept = Edge.lively();
        NibbleEngine never = Edge.lively();
        kept.program(3);
        for (int place = 0; place < 32; place++) {
            int at = place;
            Edge.due("the byte at " + place, never.at(place), () -> kept.at(at));
        }
        for (int i = 0; i < 11; i++) {
            int what = i;
            Edge.due("count " + i, never.count(i), () -> kept.count(what));
        }
        for (int i = 0; i < 6; i++) {
            int which = i;
            Edge.due("WHY " + i, never.why(i / 3, i % 3), () -> kept.why(which / 3, which % 3));
            Edge.due("DONE " + i, never.done(i), () -> kept.done(which));
            Edge.due("TRACE " + i, never.trace(i), () -> kept.trace(which));
        }
        Edge.due("the GUARD", never.guard(1), () -> kept.guard(1));
        Edge.due("ACTS are undone", never.undo(), () -> kept.undo());
        Edge.due("as they were", never.count(2), () -> kept.count(2));
        Edge.due("what is NOTED", never.blamed(9, 1, 2), () -> kept.blamed(9, 1, 2));
        Edge.due("the image", true, kept.restore());
        Edge.due("the PROGRAM goes on", never.steps(1), () -> kept.steps(1));
        for (int kind = 1; kind <= 4; kind++) {
            String text = new String[] {"?", "at 0 #0;", "on 1 a;", "a:back;a:back;"}[kind - 1];
            NibbleEngine z = Check.told("at 0 #11;halt;");
            int due = kind;
            Edge.due("the FAULT " + kind, due, () -> Check.program(z, text));
            Edge.due("STORE stays by " + kind, 0x11, () -> z.at(0));
            Edge.due("INSTRUCTIONS stay by " + kind, 1, () -> z.count(5));
            Edge.due("it RUNS as it did by " + kind, 1, () -> z.steps(9));
        }
        NibbleEngine late = Check.told("at 0 #11;plus %1 1;halt;");
        Edge.due("a FAULT at the end", 3, () -> Check.program(late, "at 0 #22;plus %1 2;back;back;on 15 z;"));
        Edge.due("nothing is laid", 0x11, () -> late.at(0));
        late.begin();
        Edge.due("nor is it when it begins anew", 0x11, () -> late.at(0));
        late.steps(1);
        Edge.due("the INSTRUCTION is the one that was", 1, () -> late.register(1));
    }

    private static void promise3Gone() {
        Edge.says("Promise 3", "ACTS, what is NOTED, the image are gone.");
        NibbleEngine x = Edge.lively();
        Edge.due("there are ACTS", true, x.count(9) > 0);
        Edge.due("something is NOTED", true, x.count(10) > 0);
        x.program(5);
        Edge.due("no ACTS", 0, () -> x.count(9));
        Edge.due("none to undo", -1, () -> x.undo());
        Edge.due("nothing NOTED", 0, () -> x.count(10));
        Edge.due("so all is so", 1, () -> x.blamed(0, 1, 2));
        Edge.due("no image", false, x.restore());
        for (int i = 1; i <= 8; i++) {
            int due = i;
            Edge.due("room for 8", due, () -> x.note(0, 0, 0));
        }
    }

    private static void promise3Refused() {
        Edge.says("Promise 3", "IllegalArgumentException: the tape has not so many, n below 0 (nothing changes).");
        NibbleEngine empty = new NibbleEngine();
        for (int n : new int[] {-1, 1, 20, Bench.LEAST, Bench.MOST}) {
            Edge.illegal(n + " of none", () -> empty.program(n));
        }
        Edge.due("0 of none", 0, () -> empty.program(0));
        for (int n : new int[] {-1, 21, 40, 700, Bench.LEAST, Bench.MOST}) {
            NibbleEngine x = Edge.lively();
            Edge.illegal(n + " of 20", () -> x.program(n));
            Edge.asks(n + " of 20", y -> y.program(n));
        }
        NibbleEngine twice = Edge.lively();
        twice.program(5);
        Edge.illegal("the tape is empty then", () -> twice.program(1));
    }

    private static void promise4() {
        Edge.says("Promise 4", "The place of the latest program()'s FAULT; NONE without.");
        NibbleEngine x = new NibbleEngine();
        Edge.due("none yet", -1, () -> x.fault());
        Check.program(x, "?");
        Edge.due("the first place", 0, () -> x.fault());
        Check.program(x, "halt;?");
        Edge.due("the latest one", 5, () -> x.fault());
        Check.feed(x, "halt;");
        Edge.illegal("one that is refused", () -> x.program(99));
        Edge.due("isn't the latest", 5, () -> x.fault());
        x.lay(1, 1);
        x.image();
        x.restore();
        x.undo();
        x.begin();
        Edge.due("it stays", 5, () -> x.fault());
        x.program(5);
        Edge.due("none by a TEXT without", -1, () -> x.fault());
        Check.program(x, Bench.times(" ", 700));
        Edge.due("none by 700 blanks", -1, () -> x.fault());
        Check.program(x, Bench.times(" ", 696) + "halt");
        Edge.due("the last place: the text's length", 700, () -> x.fault());
        x.program(0);
        Edge.due("none by an empty TEXT", -1, () -> x.fault());
    }

    private static void promise5() {
        Edge.says("Promise 5", "NoSuchElementException: another what.");
        for (int what : new int[] {-1, 15, 16, Bench.LEAST, Bench.MOST}) {
            NibbleEngine x = Edge.lively();
            Edge.none("what " + what, () -> x.count(what));
            Edge.asks("what " + what, y -> y.count(what));
        }
        NibbleEngine x = new NibbleEngine();
        Edge.due("what 0", 0, () -> x.count(0));
        Edge.due("what 14", 0, () -> x.count(14));
    }

    private static void promise5Edges() {
        Edge.says("Promise 5", "0 TIME, 1 the state, 2 NEXT, 3 CC");
        NibbleEngine first = Check.told("at 0 #a2;test 0:1;test 255:2;");
        int[][] due = {{0, 0, 0, 0}, {1, 0, 1, 3}, {2, 2, 1, 3}};
        for (int[] row : due) {
            for (int i = 0; i < 4; i++) {
                int what = i;
                Edge.due("count " + i + " behind " + row[0], row[what], () -> first.count(what));
            }
            first.steps(1);
        }

        Edge.says("Promise 5", "4 OLD (NONE: none)");
        NibbleEngine x = Check.told("test 255%1:1;halt;a:guard 1 g;on 15 b;g:halt;b:on 15 c;c:halt;");
        Edge.due("none", -1, () -> x.count(4));
        x.next(2);
        x.steps(1);
        Edge.due("none by a GUARD alone", -1, () -> x.count(4));
        x.set(1, 1);
        x.next(0);
        x.steps(1);
        Edge.due("the first INSTRUCTION", 0, () -> x.count(4));

        Edge.says("Promise 5", "5 INSTRUCTIONS, 6 FAULTS of STEPS ever, 7 INSTRUCTIONS that STEPS never did");
        NibbleEngine y = Check.told("guard 1 g;test 255:2;halt;g:on 15 a;halt;a:test 255:2;");
        int[] never = {6, 5, 4, 3, 2, 2};
        int[] faults = {0, 0, 1, 1, 2, 2};
        for (int i = 0; i < never.length; i++) {
            int behind = i;
            Edge.due("INSTRUCTIONS", 6, () -> y.count(5));
            Edge.due("never done behind " + i, never[behind], () -> y.count(7));
            Edge.due("FAULTS behind " + i, faults[behind], () -> y.count(6));
            y.steps(1);
        }
        y.begin();
        Edge.due("FAULTS ever", 3, () -> y.count(6));
        Edge.due("never done, ever", 2, () -> y.count(7));

        Edge.says("Promise 5", "8 how many TRACE has, 9 ACTS that are kept, 10 NOTED, 11 bytes of the tape, 12 to 14 "
                + "STATUS 0 to 2");
        NibbleEngine z = Check.told("a:on 15 a;");
        for (int i = 0; i < 65; i++) {
            int behind = i;
            Edge.due("TRACE behind " + i, Math.min(64, behind), () -> z.count(8));
            Edge.due("ACTS behind " + i, Math.min(40, behind), () -> z.count(9));
            z.steps(1);
        }
        Edge.due("TRACE behind 65", 64, () -> z.count(8));
        Edge.due("TIME behind 65", 65, () -> z.count(0));
        for (int i = 0; i <= 8; i++) {
            int many = i;
            Edge.due("NOTED", many, () -> z.count(10));
            z.note(0, 0, 0);
        }
        Edge.due("NOTED is full", 8, () -> z.count(10));
        Edge.due("STATUS 2", 1, () -> z.count(14));
        Edge.due("STATUS 1", 0, () -> z.count(13));
        z.lay(256, 0);
        Edge.due("STATUS 1, one more", 1, () -> z.count(13));
        Edge.due("STATUS 0", 0, () -> z.count(12));
        Check.program(z, "?");
        Edge.due("STATUS 0, one more", 1, () -> z.count(12));
        z.feed(0, 0, 0, 0, 0);
        Edge.due("bytes of the tape", 20, () -> z.count(11));
    }
}
