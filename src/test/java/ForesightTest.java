import java.util.NoSuchElementException;

/** Promises 23 to 34: what comes, what is noticed, what was seen, and years by a seed. */
public final class ForesightTest {
    private static final Class<NoSuchElementException> NONE = NoSuchElementException.class;
    private static final Class<IllegalArgumentException> WRONG = IllegalArgumentException.class;
    private static final int[] NOT_STEPS = {-1, 101, Integer.MIN_VALUE, Integer.MAX_VALUE};
    /** The INSTRUCTION behind this one is done on step 100. */
    private static final String NINETY_NINE = "load %1 49;a:plus %2 0;count %1 a;";
    /** ... and on step 101. */
    private static final String HUNDRED = "load %1 49;load %3 0;a:plus %2 0;count %1 a;";

    public static void main(String[] args) {
        promises23To25();
        promise26();
        promise27();
        promise28();
        promise29();
        promise30();
        promise30Harmless();
        promise30Named();
        promise31();
        promise32();
        promise32Faults();
        promise33();
        promise34();
        nothingChanges();
        Check.end("ForesightTest");
    }

    private static void promises23To25() {
        NibbleEngine x = Check.told("at 0 #1c;a:add 0:1 0:1;plus %5 -3;guard 4 g;add 9:1 0:1;halt;g:test 250:7;");
        int[] bytes = {0x1c, 0x2c, 0x2c, 0x2c, 0x2c, 0x2c, 0x2c};
        int[] registers = {0, 0, -3, -3, -3, -3, -3};
        int[] next = {0, 1, 2, 3, 5, 5, 5};
        int[] cc = {0, 2, 2, 2, 2, 2, 2};
        int[] state = {0, 0, 0, 0, 0, 2, 2};
        int[] faults = {0, 0, 0, 0, 1, 2, 2};
        for (int i = 0; i < 7; i++) {
            int steps = i;
            Check.due("23: " + i, bytes[i], () -> x.then(steps, 0));
            Check.due("24: " + i, registers[i], () -> x.holds(steps, 5));
            Check.due("25: NEXT " + i, next[i], () -> x.where(steps, 0));
            Check.due("25: CC " + i, cc[i], () -> x.where(steps, 1));
            Check.due("25: the state " + i, state[i], () -> x.where(steps, 2));
            Check.due("25: FAULTS " + i, faults[i], () -> x.where(steps, 3));
        }
        Check.due("23: 100", 0x2c, () -> x.then(100, 0));
        Check.due("24: 100", -3, () -> x.holds(100, 5));
        Check.due("25: 100", 2, () -> x.where(100, 2));
        x.steps(5);
        Check.due("25: FAULTS ever", 2, () -> x.where(0, 3));
        Check.due("23: the last PLACE", 0, () -> x.then(0, 255));
        Check.due("24: the last REGISTER", 0, () -> x.holds(0, 7));
        for (int steps : NOT_STEPS) {
            Check.refused("23: steps " + steps, WRONG, () -> x.then(steps, 0));
            Check.refused("24: steps " + steps, WRONG, () -> x.holds(steps, 0));
            Check.refused("25: steps " + steps, WRONG, () -> x.where(steps, 0));
            Check.refused("23: the PLACE is ahead " + steps, NONE, () -> x.then(steps, 256));
            Check.refused("24: the REGISTER is ahead " + steps, NONE, () -> x.holds(steps, 8));
            Check.refused("25: what is ahead " + steps, NONE, () -> x.where(steps, 4));
        }
        for (int far : new int[] {-1, 256, Integer.MAX_VALUE, Integer.MIN_VALUE}) {
            Check.refused("23: PLACE " + far, NONE, () -> x.then(1, far));
            Check.refused("24: REGISTER " + far, NONE, () -> x.holds(1, far));
            Check.refused("25: what " + far, NONE, () -> x.where(1, far));
        }
    }

    private static void promise26() {
        NibbleEngine x = Check.told("at 0 #9c;guard 1 b;guard 6 b;test 250:7;add 0:1 0:1;halt;b:back;");
        Check.due("26: a guarded one", 3, () -> x.faults(1));
        Check.due("26: an OVERFLOW that is guarded", 5, () -> x.faults(6));
        Check.due("26: none", -1, () -> x.faults(4));
        x.next(3);
        Check.due("26: an OVERFLOW that isn't", -1, () -> x.faults(6));
        x.steps(1);
        Check.due("26: from now on", -1, () -> x.faults(1));
        NibbleEngine edge = Check.told(NINETY_NINE + "test 250:7;");
        Check.due("26: on the 100th", 100, () -> edge.faults(1));
        NibbleEngine behind = Check.told(HUNDRED + "test 250:7;");
        Check.due("26: on the 101st", -1, () -> behind.faults(1));
        NibbleEngine first = Check.told("guard 1 b;b:test 250:7;");
        Check.due("26: the first one", 2, () -> first.faults(1));
        first.steps(10);
        Check.due("26: on the next step", 1, () -> first.faults(1));
        NibbleEngine failed = Check.told("test 250:7;");
        Check.due("26: it fails by it", 1, () -> failed.faults(1));
        failed.steps(1);
        Check.due("26: it has failed", -1, () -> failed.faults(1));
        for (int kind : new int[] {0, 9, -1, Integer.MIN_VALUE, Integer.MAX_VALUE}) {
            Check.refused("26: kind " + kind, NONE, () -> x.faults(kind));
        }
    }

    private static void promise27() {
        Check.due("27: it doesn't RUN", 0, () -> new NibbleEngine().halts());
        Check.due("27: 'halt'", 1, () -> Check.told("halt;halt;").halts());
        Check.due("27: behind the last one", 2, () -> Check.told("plus %1 1;plus %1 1;").halts());
        Check.due("27: a FAULT", 2, () -> Check.told("plus %1 1;test 250:7;plus %1 1;").halts());
        Check.due("27: a loop", -1, () -> Check.told("a:on 15 a;").halts());
        Check.due("27: behind 100", 100, () -> Check.told(NINETY_NINE + "halt;").halts());
        Check.due("27: behind 101", -1, () -> Check.told(HUNDRED + "halt;").halts());
    }

    private static void promise28() {
        NibbleEngine x = Check.told("at 0 #1c2c00;sub 1:1 0:1;copy 2:1 0;copy 0:1 2;copy 2:1 3;add 1:1 0:1;halt;");
        Check.due("28: at first", 1, () -> x.changes(1));
        Check.due("28: on the second", 2, () -> x.changes(2));
        Check.due("28: the same is laid", -1, () -> x.changes(0));
        x.steps(1);
        Check.due("28: as against now", 4, () -> x.changes(1));
        Check.due("28: it changes back later", 1, () -> x.changes(2));
        Check.due("28: on the 100th", 100, () -> Check.told(NINETY_NINE + "copy 0:1 1;at 1 #01;").changes(0));
        Check.due("28: on the 101st", -1, () -> Check.told(HUNDRED + "copy 0:1 1;at 1 #01;").changes(0));
        Check.due("28: by a guarded OVERFLOW", 2, () -> Check.told("at 0 #9c;guard 6 a;a:add 0:1 0:1;").changes(0));
        for (int place : new int[] {-1, 256, Integer.MIN_VALUE, Integer.MAX_VALUE}) {
            Check.refused("28: PLACE " + place, NONE, () -> x.changes(place));
        }
    }

    private static void promise29() {
        Check.due("29: it doesn't RUN", 1, () -> new NibbleEngine().round());
        Check.due("29: one step", 1, () -> Check.told("a:on 15 a;").round());
        Check.due("29: three steps", 3, () -> Check.told("a:plus %1 1;plus %1 -1;on 15 a;").round());
        Check.due("29: a REGISTER goes on", -1, () -> Check.told("a:plus %1 1;on 15 a;").round());
        Check.due("29: it halts elsewhere", -1, () -> Check.told("halt;").round());
        NibbleEngine guards = Check.told("a:guard 1 a;on 15 a;");
        Check.due("29: GUARDS aren't as now", -1, () -> guards.round());
        guards.steps(2);
        Check.due("29: GUARDS are as now", 2, () -> guards.round());
        NibbleEngine old = Check.told("guard 1 b;b:plus %1 0;test 250:7;");
        old.steps(2);
        Check.due("29: OLD isn't as now", -1, () -> old.round());
        old.steps(2);
        Check.due("29: OLD is as now", 2, () -> old.round());
        NibbleEngine cc = Check.told("at 0 #12;a:plus %1 0;test 0:1;on 15 a;");
        Check.due("29: CC isn't as now", -1, () -> cc.round());
        cc.steps(3);
        Check.due("29: CC is as now", 3, () -> cc.round());
        NibbleEngine store = Check.told("at 0 #0102;a:copy 2:1 0;copy 0:1 1;copy 1:1 2;on 15 a;");
        Check.due("29: the byte that was kept isn't as now", -1, () -> store.round());
        store.steps(4);
        Check.due("29: twice about", 8, () -> store.round());
        Check.due("29: 100", 100, () -> Check.told("b:load %1 49;a:plus %2 0;count %1 a;on 15 b;").round());
        Check.due("29: 101", -1, () -> Check.told("b:load %1 49;load %3 0;a:plus %2 0;count %1 a;on 15 b;").round());
        NibbleEngine failed = Check.told("test 250:7;");
        Check.due("29: the state isn't as now", -1, () -> failed.round());
        failed.steps(1);
        Check.due("29: it has failed", 1, () -> failed.round());
    }

    private static void spoilt(String what, NibbleEngine x, int place, int length, int steps, int... due) {
        for (int i = 0; i < 4; i++) {
            int asked = i;
            Check.due("30: " + what + " " + i, due[i], () -> x.spoilt(place, length, steps, asked));
        }
    }

    private static void promise30() {
        NibbleEngine x = Check.told("at 0 #1c;test 0:1;halt;");
        // letters to the left (6) and digits to the right (10) give another CC
        spoilt("test", x, 0, 1, 2, 0, 14, 16, 10);
        spoilt("one step", x, 0, 1, 1, 0, 14, 16, 10);
        spoilt("not touched", x, 1, 1, 60, 0, 30, 0, -1);
        spoilt("more bytes", x, 254, 2, 60, 0, 60, 0, -1);
        spoilt("three", x, 0, 3, 1, 0, 74, 16, 10);
        NibbleEngine fails = Check.told("plus %1 0;test 250:7;");
        spoilt("ahead of the FAULT", fails, 3, 1, 1, 0, 30, 0, -1);
        spoilt("a FAULT as it is", fails, 3, 1, 2, 0, 0, 30, 601);
        for (int what : new int[] {-1, 4, Integer.MAX_VALUE, Integer.MIN_VALUE}) {
            Check.refused("30: what " + what, NONE, () -> x.spoilt(0, 1, 1, what));
            Check.refused("30: what is ahead " + what, NONE, () -> x.spoilt(0, 4, 0, what));
        }
        for (int length : new int[] {0, 4, -1, Integer.MAX_VALUE}) {
            Check.refused("30: LENGTH " + length, WRONG, () -> x.spoilt(0, length, 1, 0));
        }
        for (int steps : new int[] {0, 61, -1, Integer.MAX_VALUE, Integer.MIN_VALUE}) {
            Check.refused("30: steps " + steps, WRONG, () -> x.spoilt(0, 1, steps, 0));
        }
        Check.refused("30: beyond", WRONG, () -> x.spoilt(254, 3, 1, 0));
        Check.refused("30: before", WRONG, () -> x.spoilt(-1, 1, 1, 0));
        Check.refused("30: far", WRONG, () -> x.spoilt(Integer.MAX_VALUE, 1, 1, 0));
    }

    private static void promise30Harmless() {
        // the byte itself may stay another one, but not what comes of it
        spoilt("copied", Check.told("at 0 #55;copy 1:1 0;"), 0, 1, 1, 0, 0, 30, 0);
        spoilt("laid over", Check.told("at 0 #55;copy 0:1 1;"), 0, 1, 1, 0, 30, 0, -1);
        spoilt("a REGISTER", Check.told("at 7 #5c;bin %1 0;bin %1 8;at 15 #0c;"), 7, 1, 1, 16, 3, 11, 1400);
        spoilt("a REGISTER that is laid over", Check.told("at 7 #5c;bin %1 0;bin %1 8;at 15 #0c;"), 7, 1, 2, 16, 14, 0, -1);
        spoilt("NEXT", Check.told("at 0 #1c;test 0:1;on 8 a;plus %1 0;a:test 1:1;test 1:1;"), 0, 1, 2, 0, 14, 16, 10);
        spoilt("NEXT and CC alike again", Check.told("at 0 #1c;test 0:1;test 1:1;"), 0, 1, 2, 0, 30, 0, -1);
        // 'guard' and OLD count for nothing, but a FAULT does
        spoilt("a guarded FAULT elsewhere", Check.told("at 0 #1c;guard 1 g;test 0:1;on 7 a;halt;a:test 250:7;g:halt;"), 0, 1,
                9, 0, 14, 16, 10);
    }

    private static void promise30Named() {
        // of a byte with a digit and a SIGN: 6 letters to the left and 10 digits to the right are told
        spoilt("add", Check.told("at 0 #1c2c;add 0:1 1:1;halt;"), 1, 1, 2, 16, 3, 11, 200);
        spoilt("ZEROS", Check.told("at 0 #00001c1c;mul 0:3 3:1;"), 0, 1, 1, 30, 0, 0, -1);
        spoilt("guarded", Check.told("at 0 #1c2c;guard 4 g;add 0:1 1:1;halt;g:add 5:1 5:1;"), 1, 1, 9, 16, 3, 11, 200);
        // the FAULT is one of 4, but another HALF is told
        spoilt("another HALF ahead", Check.told("at 0 #a11c;add 0:1 1:1;"), 1, 1, 1, 0, 0, 30, 200);
        spoilt("its own HALF, as it is", Check.told("at 0 #a11c;add 0:1 1:1;"), 0, 1, 1, 5, 0, 25, 0);
        spoilt("edit", Check.told("at 0 #402020;at 9 #12;edit 0:3 9;"), 9, 1, 1, 6, 0, 24, 1800);
    }

    private static void promise31() {
        NibbleEngine x = Check.told("halt;");
        Check.due("31: one", 1, () -> x.note(0, 0, 0));
        Check.due("31: another", 2, () -> x.note(60, 255, 255));
        int[][] wrong = {{-1, 0, 0}, {61, 0, 0}, {Integer.MAX_VALUE, 0, 0}, {0, -1, 0}, {0, 256, 0},
            {0, Integer.MIN_VALUE, 0}, {0, 0, -1}, {0, 0, 256}, {0, 0, Integer.MAX_VALUE}};
        for (int[] note : wrong) {
            Check.due("31: refused", -1, () -> x.note(note[0], note[1], note[2]));
        }
        Check.due("31: STATUS", wrong.length, () -> x.count(14));
        Check.due("31: NOTED", 2, () -> x.count(10));
        Check.due("31: the same again", 3, () -> x.note(0, 0, 0));
        for (int i = 4; i <= 8; i++) {
            int due = i;
            Check.due("31: " + i, due, () -> x.note(1, 2, 3));
        }
        Check.due("31: there are 8", -1, () -> x.note(1, 2, 3));
        Check.due("31: STATUS, too", wrong.length + 1, () -> x.count(14));
        Check.due("31: no ACT", 0, () -> x.count(9));
    }

    private static void blamed(String what, NibbleEngine x, int place, int length, int... due) {
        for (int i = 0; i < 3; i++) {
            int asked = i;
            Check.due("32: " + what + " " + i, due[i], () -> x.blamed(place, length, asked));
        }
    }

    private static void promise32() {
        NibbleEngine x = Check.told("at 0 #1c2c;add 0:1 1:1;halt;");
        blamed("nothing is NOTED", x, 0, 1, 30, 0, 1);
        blamed("nothing, in three bytes", x, 253, 3, 90, 50600 + 1, 1);
        x.note(1, 0, 0x5c);
        blamed("1 would be 3", x, 0, 1, 1, 3, 0);
        blamed("2 would be 4", x, 1, 1, 1, 204, 0);
        blamed("both", x, 0, 3, 2, 3, 0);
        blamed("another byte", x, 2, 2, 0, -1, 0);
        NibbleEngine full = Check.told("at 0 #1c2c;add 0:1 1:1;halt;");
        for (int i = 0; i < 7; i++) {
            full.note(0, 1, 0x2c);
        }
        full.note(60, 0, 0x4c);
        blamed("eight are NOTED", full, 0, 2, 1, 2, 0);
        x.note(0, 1, 0x2c);
        blamed("2 is seen", x, 1, 1, 0, -1, 0);
        blamed("1 is not", x, 0, 1, 1, 3, 0);
        NibbleEngine so = Check.told("at 0 #1c2c;add 0:1 1:1;halt;");
        so.note(1, 0, 0x3c);
        // other SIGNS above 0 would do, too: A, E, F, and so would nothing
        blamed("it is so", so, 1, 1, 3, 310, 1);
        NibbleEngine late = Check.told("at 0 #55;load %1 29;a:plus %2 0;count %1 a;copy 1:1 0;");
        late.note(60, 1, 0x65);
        blamed("behind 60 steps", late, 0, 1, 1, 6, 0);
        late.forget();
        late.note(59, 1, 0x65);
        blamed("not yet behind 59", late, 0, 1, 0, -1, 0);
        for (int what : new int[] {-1, 3, Integer.MAX_VALUE, Integer.MIN_VALUE}) {
            Check.refused("32: what " + what, NONE, () -> x.blamed(0, 1, what));
            Check.refused("32: what is ahead " + what, NONE, () -> x.blamed(0, 0, what));
        }
        for (int length : new int[] {0, 4, -1, Integer.MAX_VALUE, Integer.MIN_VALUE}) {
            Check.refused("32: LENGTH " + length, WRONG, () -> x.blamed(0, length, 0));
        }
        Check.refused("32: beyond", WRONG, () -> x.blamed(254, 3, 0));
        Check.refused("32: before", WRONG, () -> x.blamed(-1, 1, 0));
        Check.refused("32: far", WRONG, () -> x.blamed(Integer.MAX_VALUE, 3, 2));
    }

    private static void promise32Faults() {
        // behind the first FAULT no STEP goes by, be it guarded or not
        NibbleEngine x = Check.told("at 0 #1c;guard 4 g;add 0:1 0:1;halt;g:copy 5:1 6;at 6 #77;");
        x.note(9, 5, 0x77);
        blamed("no STEP behind it", x, 0, 1, 0, -1, 0);
        x.forget();
        x.note(9, 5, 0);
        blamed("all, and without", x, 0, 1, 30, 0, 1);
        x.forget();
        x.note(9, 0, 0x1a);
        blamed("a spoilt one that stays by its FAULT", x, 0, 1, 0, -1, 0);
        x.note(9, 0, 0);
        blamed("two that can't be", x, 0, 1, 0, -1, 0);
        x.forget();
        x.note(9, 0, 0x11);
        blamed("the SIGN became 1", x, 0, 1, 1, 101, 0);
        NibbleEngine failing = Check.told("guard 1 g;test 250:7;g:copy 5:1 6;at 6 #77;");
        failing.note(9, 5, 0x77);
        Check.due("32: without, no STEP behind the first FAULT, either", 0, () -> failing.blamed(5, 1, 2));
        // what is spoilt at 5 stands there, as 'copy' is never done
        blamed("by the byte itself", failing, 5, 1, 0, -1, 0);
        failing.forget();
        failing.note(9, 5, 7);
        blamed("by the byte's right HALF", failing, 5, 1, 1, 1107, 0);
    }

    private static void promise33() {
        NibbleEngine x = Check.told("halt;");
        x.note(0, 0, 5);
        x.note(0, 0, 6);
        x.forget();
        Check.due("33: none is NOTED", 0, () -> x.count(10));
        Check.due("33: so all is so", 1, () -> x.blamed(0, 1, 2));
        Check.due("33: it is no ACT", 0, () -> x.count(9));
        Check.due("33: one again", 1, () -> x.note(0, 0, 5));
        for (int i = 2; i <= 8; i++) {
            x.note(0, 0, 5);
        }
        x.forget();
        x.forget();
        Check.due("33: there is room", 1, () -> x.note(0, 0, 5));
    }

    private static int seed;

    private static int draw(int n) {
        seed = seed * 1103515245 + 12345;
        return (seed >> 16 & 0x7fff) % n;
    }

    private static void promise34() {
        NibbleEngine empty = new NibbleEngine();
        NibbleEngine failing = Check.told("plus %0 1;test 250:7;");
        NibbleEngine looping = Check.told("guard 1 b;b:test 250:7;");
        for (int from : new int[] {0, 1, -1, 5, 123456789, Integer.MIN_VALUE, Integer.MAX_VALUE}) {
            for (int n = 0; n <= 20; n++) {
                years(empty, failing, looping, from, n);
            }
        }
        for (int from = 2; from < 400; from++) {
            years(empty, failing, looping, 1000003 * from, 20);
        }
        Check.due("34: all as ever behind it", 0, () -> failing.count(0));
        for (int what : new int[] {-1, 3, Integer.MIN_VALUE, Integer.MAX_VALUE}) {
            Check.refused("34: what " + what, NONE, () -> empty.years(1, 1, what));
            Check.refused("34: what is ahead " + what, NONE, () -> empty.years(1, 21, what));
        }
        for (int n : new int[] {-1, 21, Integer.MIN_VALUE, Integer.MAX_VALUE}) {
            Check.refused("34: n " + n, WRONG, () -> empty.years(1, n, 0));
        }
        failing.steps(2);
        failing.lay(7, 7);
        seed = 1;
        Check.due("34: FAULTS of the years alone", 0, () -> failing.years(1, 0, 0));
        Check.due("34: none is unlike at first", 0, () -> failing.years(1, 0, 2));
    }

    private static void years(NibbleEngine empty, NibbleEngine failing, NibbleEngine looping, int from, int n) {
        seed = from;
        int[] store = new int[256];
        int[] storeFailing = new int[256];
        int laid = 0;
        int laidFailing = 0;
        int renewedEmpty = 0;
        int renewedFailing = 0;
        boolean failed = false;
        for (int year = 0; year < n; year++) {
            int happening = draw(3);
            if (happening == 0) {
                int place = draw(256);
                store[place] = draw(256);
                storeFailing[place] = store[place];
            } else if (happening == 1) {
                renewedEmpty++;
                store = new int[256];
                if (failed) {
                    renewedFailing++;
                    storeFailing = new int[256];
                    failed = false;
                }
            }
            failed = true;
        }
        for (int number : store) {
            laid += number != 0 ? 1 : 0;
        }
        for (int number : storeFailing) {
            laidFailing += number != 0 ? 1 : 0;
        }
        int unlikeFailing = laidFailing;
        String what = "34: seed " + from + ", " + n + " ";
        int anew = renewedEmpty;
        int unlike = laid;
        int again = renewedFailing;
        int once = n > 0 ? 1 : 0;
        Check.due(what + "no FAULTS", 0, () -> empty.years(from, n, 0));
        Check.due(what + "anew", anew, () -> empty.years(from, n, 1));
        Check.due(what + "unlike", unlike, () -> empty.years(from, n, 2));
        Check.due(what + "a FAULT whenever it begins", once + again, () -> failing.years(from, n, 0));
        Check.due(what + "anew behind a FAULT", again, () -> failing.years(from, n, 1));
        Check.due(what + "REGISTERS are no bytes", unlikeFailing, () -> failing.years(from, n, 2));
        Check.due(what + "five STEPS a year", Math.max(0, 5 * n - 1), () -> looping.years(from, n, 0));
        Check.due(what + "never anew", 0, () -> looping.years(from, n, 1));
    }

    /** No question changes anything. */
    private static void nothingChanges() {
        NibbleEngine x = Check.told("at 0 #1c2c;a:add 0:1 1:1;plus %1 1;guard 6 b;b:on 15 a;");
        x.steps(2);
        x.note(3, 0, 0x1c);
        String before = told(x);
        x.then(50, 0);
        x.holds(50, 1);
        x.where(50, 0);
        x.faults(6);
        x.halts();
        x.changes(0);
        x.round();
        x.spoilt(0, 2, 20, 0);
        x.blamed(0, 2, 0);
        x.years(7, 20, 2);
        x.need(2, 0, 1, 1, 1);
        x.rounds(0, 1, 1);
        x.flaws(0, 1, false, -1);
        x.unedited(0, 2, 4, -1);
        Check.due("23 to 34: all as ever", true, before.equals(told(x)));
    }

    private static String told(NibbleEngine x) {
        StringBuilder row = new StringBuilder(Check.bytes(x, 0, 256));
        for (int i = 0; i < 15; i++) {
            row.append(' ').append(x.count(i));
        }
        for (int i = 0; i < 8; i++) {
            row.append(' ').append(x.register(i)).append(' ').append(x.guard(i + 1));
        }
        return row.append(' ').append(x.done(0)).append(x.trace(0)).toString();
    }
}
