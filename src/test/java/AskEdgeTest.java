import java.util.HashMap;
import java.util.Map;

/** Each sentence that names an edge of promises 6 to 16, and of what they work out (Terms, 3). */
public final class AskEdgeTest {
    private static final int[] WRONG_16 = {0, -1, 17, 18, 64, Bench.LEAST, Bench.MOST};
    private static final String NINES = Bench.times("9", 31);

    public static void main(String[] args) {
        promises6To8();
        promise9();
        promise10();
        promise11();
        promise11Levels();
        promise12();
        flaws();
        promise13();
        promise13Digits();
        promise14();
        promise14Flaws();
        need();
        promise15();
        rounds();
        promise16();
        promise16None();
        unedited();
        sources();
        Edge.end("AskEdgeTest");
    }

    private static void promises6To8() {
        Edge.says("Promise 6", "The byte at a PLACE. NoSuchElementException: no such PLACE.");
        NibbleEngine x = Check.told("at 0 #11;at 255 #22;load %0 5;load %7 9;guard 1 a;guard 8 a;a:halt;");
        x.steps(4);
        Edge.due("PLACE 0", 0x11, () -> x.at(0));
        Edge.due("PLACE 255", 0x22, () -> x.at(255));
        for (int place : new int[] {-1, 256, 257, Bench.LEAST, Bench.MOST}) {
            Edge.none("PLACE " + place, () -> x.at(place));
            Edge.asks("PLACE " + place, y -> y.at(place));
        }

        Edge.says("Promise 7", "What a REGISTER holds. NoSuchElementException: no such one.");
        Edge.due("REGISTER 0", 5, () -> x.register(0));
        Edge.due("REGISTER 7", 9, () -> x.register(7));
        for (int which : new int[] {-1, 8, 9, Bench.LEAST, Bench.MOST}) {
            Edge.none("REGISTER " + which, () -> x.register(which));
            Edge.asks("REGISTER " + which, y -> y.register(which));
        }

        Edge.says("Promise 8", "By which INSTRUCTION a kind (1 to 8) is GUARDED; NONE: it isn't. "
                + "NoSuchElementException: no such kind.");
        Edge.due("kind 1", 4, () -> x.guard(1));
        Edge.due("kind 8", 4, () -> x.guard(8));
        for (int kind = 2; kind < 8; kind++) {
            int none = kind;
            Edge.due("kind " + kind + " isn't", -1, () -> x.guard(none));
        }
        for (int kind : new int[] {0, -1, 9, Bench.LEAST, Bench.MOST}) {
            Edge.none("kind " + kind, () -> x.guard(kind));
            Edge.asks("kind " + kind, y -> y.guard(kind));
        }
        NibbleEngine first = Check.told("g:guard 3 g;");
        first.steps(1);
        Edge.due("by the first INSTRUCTION", 0, () -> first.guard(3));
    }

    private static void promise9() {
        Edge.says("Promise 9", "DONE of an INSTRUCTION. NoSuchElementException: no such one.");
        for (int many : new int[] {0, 1, 2, 60}) {
            NibbleEngine x = Check.told(Bench.times("back;", many));
            x.steps(50);
            x.steps(50);
            for (int wrong : new int[] {-1, many, many + 1, Bench.LEAST, Bench.MOST}) {
                Edge.none(wrong + " of " + many, () -> x.done(wrong));
            }
            if (many > 0) {
                Edge.due("the first of " + many, 1, () -> x.done(0));
                Edge.due("the last of " + many, 1, () -> x.done(many - 1));
            }
        }
        Edge.asks("no such one", y -> y.done(7));
        NibbleEngine fewer = Check.told("back;back;back;");
        fewer.steps(3);
        Check.program(fewer, "back;");
        Edge.none("of the PROGRAM that was", () -> fewer.done(1));
        Edge.due("never done", 0, () -> fewer.done(0));
    }

    private static void promise10() {
        Edge.says("Promise 10", "The i-th latest INSTRUCTION of TRACE (0 the latest). NoSuchElementException: there is "
                + "none.");
        NibbleEngine x = Check.told("back;plus %1 1;a:on 15 a;");
        Edge.none("ahead of all STEPS", () -> x.trace(0));
        for (int done = 1; done <= 66; done++) {
            x.steps(1);
            int has = Math.min(done, 64);
            int latest = Math.min(done - 1, 2);
            int first = Math.min(done - has, 2);
            Edge.due("the latest of " + done, latest, () -> x.trace(0));
            Edge.due("the first of " + done, first, () -> x.trace(has - 1));
            Edge.none("behind it of " + done, () -> x.trace(has));
        }
        for (int i : new int[] {-1, 64, 65, Bench.LEAST, Bench.MOST}) {
            Edge.none("i " + i, () -> x.trace(i));
            Edge.asks("i " + i, y -> y.trace(i));
        }
    }

    private static void promise11() {
        Edge.says("Promise 11", "NoSuchElementException: there was no FAULT, it has no such cause, another level, "
                + "another what.");
        NibbleEngine none = Check.told("plus %1 1;halt;");
        none.steps(1);
        for (int level = -1; level <= 3; level++) {
            for (int what = -1; what <= 3; what++) {
                int one = level;
                int asked = what;
                Edge.none("no FAULT, " + level + " " + what, () -> none.why(one, asked));
            }
        }
        NibbleEngine half = Check.told("at 0 #a1;add 0:1 0:1;");
        half.steps(1);
        for (int level : new int[] {-1, 3, Bench.LEAST, Bench.MOST}) {
            for (int what = -1; what <= 3; what++) {
                int asked = what;
                Edge.none("level " + level + ", what " + what, () -> Edge.lively().why(level, asked));
                Edge.none("level " + level + ", what " + what + " by a HALF", () -> half.why(level, asked));
            }
            Edge.asks("level " + level, y -> y.why(level, 0));
        }
        for (int what : new int[] {-1, 3, Bench.LEAST, Bench.MOST}) {
            for (int level = 0; level <= 2; level++) {
                int one = level;
                Edge.none("level " + level + ", what " + what, () -> half.why(one, what));
            }
            Edge.asks("what " + what, y -> y.why(0, what));
        }
        Check.program(half, "halt;");
        Edge.none("behind another TEXT", () -> half.why(0, 0));
    }

    private static void promise11Levels() {
        Edge.says("Promise 11", "WHY: level 0: the kind (what 0), INSTRUCTION (1), TIME (2); 1: which operand (0), "
                + "ADDRESS (1), LENGTH (2); 2: the PLACE (0), HALF (1), what it holds (2).");
        String[] operations = {"test 255:2", "mul 0:1 1:1", "add 0:2 1:2", "add 20:1 0:1", "mul 2:3 0:1", "add 0:1 0:1", "div 2:3 6:1",
            "bin %1 8"};
        int[][] due = {{0, 255, 2}, {1, 1, 1}, {1, 1, 2}, {0, 20, 1, 20, 1, 0}, {0, 2, 3, 2, 0, 1}, {0, 0, 1}, {0, 2, 3}, {0, 8, 8}};
        for (int kind = 1; kind <= 8; kind++) {
            NibbleEngine x = Check.told("at 0 #9c1c10000c000c00000002147483648c;guard 6 a;plus %7 1;a:" + operations[kind - 1]
                    + ";halt;");
            x.steps(3);
            int[] head = {kind, 2, 2};
            for (int what = 0; what < 3; what++) {
                int asked = what;
                Edge.due("kind " + kind + ", 0 " + what, head[what], () -> x.why(0, asked));
                Edge.due("kind " + kind + ", 1 " + what, due[head[0] - 1][what], () -> x.why(1, asked));
                if (due[kind - 1].length > 3) {
                    Edge.due("kind " + kind + ", 2 " + what, due[head[0] - 1][3 + what], () -> x.why(2, asked));
                } else {
                    Edge.none("kind " + kind + ", 2 " + what, () -> x.why(2, asked));
                }
            }
        }
    }

    /** A FIELD at the edges of the STORE, for a call that refuses another one. */
    private interface Asked {
        long of(NibbleEngine x, int place, int length);
    }

    /** LENGTHS from 1 to the most, at the first and the last PLACE; the others are refused. */
    private static void field(int most, Asked asked) {
        for (int length : new int[] {1, 2, most - 1, most}) {
            NibbleEngine x = Check.told("at 0 #" + Bench.times("f0", 256) + ";");
            answers(x, 0, length, asked);
            answers(x, 256 - length, length, asked);
            for (int place : new int[] {-1, 257 - length, 256, Bench.LEAST, Bench.MOST}) {
                Edge.illegal(length + " bytes at " + place, () -> asked.of(x, place, length));
                Edge.asks(length + " bytes at " + place, y -> asked.of(y, place, length));
            }
        }
        for (int length : new int[] {0, -1, most + 1, most + 2, 256, Bench.LEAST, Bench.MOST}) {
            NibbleEngine x = Edge.lively();
            Edge.illegal("LENGTH " + length, () -> asked.of(x, 0, length));
            Edge.asks("LENGTH " + length, y -> asked.of(y, 0, length));
        }
    }

    /** It isn't refused as a FIELD; whether it has FLAWS is another question. */
    private static void answers(NibbleEngine x, int place, int length, Asked asked) {
        Edge.due(length + " bytes at " + place + " aren't refused", 1, () -> {
            try {
                asked.of(x, place, length);
                return 1;
            } catch (IllegalArgumentException e) {
                return 0;
            } catch (RuntimeException e) {
                return 1;
            }
        });
    }

    private static void promise12() {
        Edge.says("Promise 12", "IllegalArgumentException (ahead): LENGTH not 1 to 64, not all in the STORE.");
        field(64, (x, place, length) -> x.flaws(place, length, false, -1));
        field(64, (x, place, length) -> x.flaws(place, length, true, -1));
        field(64, (x, place, length) -> x.flaws(place, length, true, 9999));
        field(64, (x, place, length) -> x.flaws(place, length, false, -2));

        Edge.says("Promise 12", "FLAWS: how many (i NONE), of the i-th twice its byte's PLACE and its HALF.");
        NibbleEngine all = Check.told("at 0 #ff;at 255 #00;");
        Edge.due("none of 0", 1, () -> all.flaws(0, 1, false, -1));
        Edge.due("twice 0", 0, () -> all.flaws(0, 1, false, 0));
        Edge.due("twice 0 and 1", 1, () -> all.flaws(0, 1, true, 0));
        Edge.due("twice 255", 510, () -> all.flaws(255, 1, true, 0));
        Edge.due("twice 255 and 1", 511, () -> all.flaws(255, 1, false, 0));

        Edge.says("Promise 12", "NoSuchElementException: there is none.");
        NibbleEngine x = Check.told("at 0 #ff12cc;at 10 #1c;at 11 #c1;at 192 #" + Bench.times("ff", 64) + ";");
        Edge.due("the first one", 0, () -> x.flaws(0, 3, false, 0));
        Edge.due("the last one", 4, () -> x.flaws(0, 3, false, 2));
        for (int i : new int[] {-2, -3, 3, 4, Bench.LEAST, Bench.MOST}) {
            Edge.none("i " + i, () -> x.flaws(0, 3, false, i));
            Edge.asks("i " + i, y -> y.flaws(0, 3, false, i));
        }
        Edge.due("of 64 bytes 127", 127, () -> x.flaws(192, 64, false, -1));
        Edge.due("the 127th", 510, () -> x.flaws(192, 64, false, 126));
        Edge.none("no 128th", () -> x.flaws(192, 64, false, 127));
        Edge.none("none of a PACKED one", () -> x.flaws(10, 1, false, 0));
        Edge.due("how many, then: 0", 0, () -> x.flaws(10, 1, false, -1));
        Edge.none("none of a ZONED one", () -> x.flaws(11, 1, true, 0));
        Edge.due("how many of that: 0", 0, () -> x.flaws(11, 1, true, -1));
    }

    private static void flaws() {
        Edge.says("Terms 3", "FLAWS of a FIELD, as PACKED or ZONED: HALVES that aren't as told in 2, from the left.");
        NibbleEngine x = Check.told("at 0 #a01b9c;at 100 #e1fa9b;");
        int[] packed = {0, 3};
        int[] zoned = {200, 203, 204, 205};
        Edge.due("PACKED", 2, () -> x.flaws(0, 3, false, -1));
        Edge.due("ZONED", 4, () -> x.flaws(100, 3, true, -1));
        for (int i = 0; i < 4; i++) {
            int which = i;
            if (i < 2) {
                Edge.due("PACKED, from the left", packed[i], () -> x.flaws(0, 3, false, which));
            }
            Edge.due("ZONED, from the left", zoned[i], () -> x.flaws(100, 3, true, which));
        }
    }

    private static void promise13() {
        Edge.says("Promise 13", "IllegalArgumentException: LENGTH not 1 to 16, not all in the STORE.");
        field(16, (x, place, length) -> x.number(place, length, false));
        field(16, (x, place, length) -> x.number(place, length, true));
        NibbleEngine fits = Check.told("at 0 packed 1 in 16;at 240 packed 2 in 16;at 100 zoned 3 in 16;");
        Edge.due("16 bytes at the first PLACE", 1, () -> fits.number(0, 16, false));
        Edge.due("16 bytes at the last one", 2, () -> fits.number(240, 16, false));
        Edge.due("1 byte at the last one", 2, () -> fits.number(255, 1, false));
        Edge.due("16 bytes as ZONED", 3, () -> fits.number(100, 16, true));
        Edge.illegal("FLAWS are behind that", () -> fits.number(50, 17, false));

        Edge.says("Promise 13", "The NUMBER of a FIELD, PACKED or ZONED.");
        NibbleEngine both = Check.told("at 0 #f1f2d3;at 4 #12345d;at 8 #f9;at 9 #9f;");
        Edge.due("ZONED", -123, () -> both.number(0, 3, true));
        Edge.due("PACKED", -12345, () -> both.number(4, 3, false));
        Edge.due("ZONED, a byte", 9, () -> both.number(8, 1, true));
        Edge.due("PACKED, a byte", 9, () -> both.number(9, 1, false));

        Edge.says("Promise 13", "NoSuchElementException (behind that): it has FLAWS.");
        NibbleEngine x = Check.told("at 0 #1c;at 1 #11;at 2 #a1;at 3 #ac;at 10 #" + Bench.times("1", 30) + "ac;at 30 #a" + NINES + ";");
        Edge.due("without", 1, () -> x.number(0, 1, false));
        Edge.none("no SIGN", () -> x.number(1, 1, false));
        Edge.none("no digit", () -> x.number(3, 1, false));
        Edge.due("as ZONED without", 1, () -> x.number(2, 1, true));
        Edge.none("as PACKED", () -> x.number(2, 1, false));
        Edge.none("as ZONED", () -> x.number(0, 1, true));
        Edge.none("FLAWS are ahead of too many digits", () -> x.number(10, 16, false));
        Edge.none("FLAWS at the begin, too", () -> x.number(30, 16, false));
        Edge.asks("with FLAWS", y -> y.number(8, 1, false));
        Edge.asks("without", y -> y.number(0, 2, false));
    }

    private static void promise13Digits() {
        Edge.says("Promise 13", "ArithmeticException (behind that): it has more than 18 digits, without 0 ahead.");
        long eighteen = 999999999999999999L;
        String[] signs = {"c", "d"};
        for (int i = 0; i < 2; i++) {
            String sign = signs[i];
            int by = i == 0 ? 1 : -1;
            NibbleEngine x = Check.told("at 0 #" + Bench.wide(Bench.times("9", 18) + sign, 16) + ";at 16 #"
                    + Bench.wide("1" + Bench.times("0", 18) + sign, 16) + ";at 32 #" + NINES + sign + ";at 48 #"
                    + Bench.wide("9" + Bench.times("0", 16) + sign, 10) + ";at 64 #1" + Bench.times("0", 18) + sign
                    + ";at 80 #1" + Bench.times("0", 30) + sign + ";at 96 #" + Bench.wide("0" + sign, 16) + ";");
            Edge.due("18 of 31 digits", by * eighteen, () -> x.number(0, 16, false));
            Edge.arithmetic("19 of 31 digits", () -> x.number(16, 16, false));
            Edge.arithmetic("31 digits", () -> x.number(32, 16, false));
            Edge.due("17 of 19 digits", by * 90000000000000000L, () -> x.number(48, 10, false));
            Edge.arithmetic("19 of 19 digits", () -> x.number(64, 10, false));
            Edge.arithmetic("the first of 31 alone isn't 0", () -> x.number(80, 16, false));
            Edge.due("0 of 31 digits", 0, () -> x.number(96, 16, false));
        }
        NibbleEngine zoned = Check.told("at 0 zoned -9999999999999999 in 16;");
        Edge.due("16 digits as ZONED", -9999999999999999L, () -> zoned.number(0, 16, true));
        NibbleEngine x = Check.told("at 16 #1" + Bench.times("0", 18) + "c;");
        Edge.arithmetic("once", () -> x.number(16, 10, false));
        Edge.arithmetic("and once more", () -> x.number(16, 10, false));
    }

    private static void promise14() {
        Edge.says("Promise 14", "NEED of two FIELDS, added (how 0), the second one subtracted (1), multiplied (2).");
        NibbleEngine three = Check.told("at 0 packed 6 in 1;at 1 packed 500 in 4;at 9 packed -6 in 1;at 11 packed 994 in 2;");
        Edge.due("6 and 500", 2, () -> three.need(0, 0, 1, 1, 4));
        Edge.due("6 less 500", 2, () -> three.need(1, 0, 1, 1, 4));
        Edge.due("6 times 500", 3, () -> three.need(2, 0, 1, 1, 4));
        Edge.due("994 and 6", 3, () -> three.need(0, 11, 2, 0, 1));
        Edge.due("994 less 6", 2, () -> three.need(1, 11, 2, 0, 1));
        Edge.due("994 and less 6", 2, () -> three.need(0, 11, 2, 9, 1));
        Edge.due("994 less less 6", 3, () -> three.need(1, 11, 2, 9, 1));
        Edge.due("less 6 less 994", 3, () -> three.need(1, 9, 1, 11, 2));
        Edge.due("6 and less 6", 1, () -> three.need(0, 0, 1, 9, 1));

        Edge.says("Promise 14", "IllegalArgumentException: how, a LENGTH not 1 to 16, one that isn't in the STORE.");
        NibbleEngine x = Check.told("at 0 packed 1 in 16;at 240 packed 2 in 16;");
        for (int how = 0; how < 3; how++) {
            int one = how;
            Edge.due("how " + how, 1, () -> x.need(one, 0, 16, 240, 16));
            Edge.due("how " + how + ", of one byte", 1, () -> x.need(one, 15, 1, 255, 1));
            field(16, (y, place, length) -> y.need(one, place, length, 0, 1));
            field(16, (y, place, length) -> y.need(one, 0, 1, place, length));
        }
        for (int how : new int[] {-1, 3, 4, Bench.LEAST, Bench.MOST}) {
            Edge.illegal("how " + how, () -> x.need(how, 0, 16, 240, 16));
            Edge.asks("how " + how, y -> y.need(how, 0, 2, 0, 2));
        }
        for (int length : WRONG_16) {
            Edge.illegal("the first LENGTH " + length + ", the other one with FLAWS", () -> x.need(0, 0, length, 100, 1));
            Edge.illegal("the other LENGTH " + length + ", the first one with FLAWS", () -> x.need(0, 100, 1, 0, length));
        }
        Edge.illegal("how, with FLAWS", () -> x.need(3, 100, 1, 100, 1));
        Edge.illegal("the other one beyond, the first one with FLAWS", () -> x.need(0, 100, 1, 255, 2));
    }

    private static void promise14Flaws() {
        Edge.says("Promise 14", "NoSuchElementException (behind that): one has FLAWS as PACKED.");
        NibbleEngine x = Check.told("at 0 #1c11aca1;");
        for (int how = 0; how < 3; how++) {
            int one = how;
            Edge.due("without", 1, () -> x.need(one, 0, 1, 0, 1));
            for (int place = 1; place <= 3; place++) {
                int at = place;
                Edge.none("the first one at " + place, () -> x.need(one, at, 1, 0, 1));
                Edge.none("the other one at " + place, () -> x.need(one, 0, 1, at, 1));
                Edge.none("both at " + place, () -> x.need(one, at, 1, at, 1));
            }
            Edge.asks("with FLAWS", y -> y.need(one, 8, 1, 8, 1));
        }
    }

    private static void needs(int how, String one, String two, int due) {
        NibbleEngine x = Check.told("at 0 #" + Bench.wide(one, 16) + ";at 100 #" + Bench.wide(two, 16) + ";");
        Edge.due("how " + how + " of " + one + " and " + two, due, () -> x.need(how, 0, 16, 100, 16));
    }

    private static void need() {
        Edge.says("Terms 3", "NEED: the least LENGTH in which the NUMBERS of two FIELDS, added, subtracted, "
                + "multiplied, have room as PACKED.");
        needs(0, "0c", "0c", 1);
        needs(0, "8c", "1c", 1);
        needs(0, "9c", "1c", 2);
        needs(0, "998c", "1c", 2);
        needs(0, "999c", "1c", 3);
        needs(0, "99999c", "0c", 3);
        needs(0, "99999c", "1c", 4);
        needs(0, "100000c", "1d", 3);
        needs(0, "9d", "1d", 2);
        needs(0, "9d", "1c", 1);
        needs(1, "9c", "1d", 2);
        needs(1, "9c", "1c", 1);
        needs(1, "10c", "1c", 1);
        needs(1, "1c", "10c", 1);
        needs(1, "1c", "11c", 2);
        needs(1, "999d", "1c", 3);
        needs(1, "5c", "5c", 1);
        needs(2, "3c", "3c", 1);
        needs(2, "2c", "5c", 2);
        needs(2, "37d", "27c", 2);
        needs(2, "40d", "25c", 3);
        needs(2, "0c", NINES + "d", 1);
        needs(0, NINES + "c", "0d", 16);
        needs(0, NINES + "c", "1c", 17);
        needs(1, NINES + "d", "1c", 17);
        needs(1, NINES + "d", "1d", 16);
        needs(0, NINES + "c", NINES + "c", 17);
        needs(1, NINES + "c", NINES + "c", 1);
        needs(2, NINES + "c", "1d", 16);
        needs(2, NINES + "c", "2c", 17);
        needs(2, NINES + "c", NINES + "d", 32);
        needs(2, "1" + Bench.times("0", 30) + "c", "1" + Bench.times("0", 30) + "c", 31);
    }

    private static void promise15() {
        Edge.says("Promise 15", "ROUNDS by n (1 to 32). IllegalArgumentException: n, LENGTH not 1 to 16, not all in "
                + "the STORE.");
        NibbleEngine x = Check.told("at 0 packed 9 in 1;at 240 #" + NINES + "c;");
        Edge.due("n 1", 0x3fe, () -> x.rounds(0, 1, 1));
        Edge.due("n 2", 0, () -> x.rounds(0, 1, 2));
        Edge.due("n 31", 0x3fe, () -> x.rounds(240, 16, 31));
        Edge.due("n 32", 0, () -> x.rounds(240, 16, 32));
        for (int n : new int[] {0, -1, 33, 34, Bench.LEAST, Bench.MOST}) {
            Edge.illegal("n " + n, () -> x.rounds(0, 1, n));
            Edge.illegal("n " + n + ", with FLAWS", () -> x.rounds(100, 1, n));
            Edge.asks("n " + n, y -> y.rounds(0, 2, n));
        }
        field(16, (y, place, length) -> y.rounds(place, length, 1));
        for (int length : WRONG_16) {
            Edge.illegal("LENGTH " + length + ", with FLAWS", () -> x.rounds(100, length, 1));
        }

        Edge.says("Promise 15", "NoSuchElementException (behind that): it has FLAWS as PACKED.");
        NibbleEngine flawed = Check.told("at 0 #1c11aca1;");
        Edge.due("without", 0x200, () -> flawed.rounds(0, 1, 1));
        for (int place = 1; place <= 3; place++) {
            int at = place;
            Edge.none("at " + place, () -> flawed.rounds(at, 1, 1));
            Edge.none("at " + place + ", beyond its digits", () -> flawed.rounds(at, 1, 32));
        }
        Edge.asks("with FLAWS", y -> y.rounds(8, 1, 1));
    }

    private static void rounds() {
        Edge.says("Terms 3", "ROUNDS of a FIELD by n: those of r (0 to 9, as bits) by which 'shift' by n to the right "
                + "gives another NUMBER than by 0.");
        for (String sign : new String[] {"c", "d"}) {
            for (int digit = 0; digit <= 9; digit++) {
                for (int n = 1; n <= 5; n++) {
                    int bits = 0;
                    String laid = "7" + digit + "3" + digit + "9" + sign;
                    long by0 = shifted(laid, n, 0);
                    for (int r = 0; r <= 9; r++) {
                        bits |= shifted(laid, n, r) == by0 ? 0 : 1 << r;
                    }
                    int due = bits;
                    int many = n;
                    NibbleEngine x = Check.told("at 0 #" + laid + ";");
                    Edge.due(laid + " by " + n, due, () -> x.rounds(0, 3, many));
                }
            }
        }
        int[] due = {0, 0x200, 0x300, 0x380, 0x3c0, 0x3e0, 0x3f0, 0x3f8, 0x3fc, 0x3fe};
        for (int digit = 0; digit <= 9; digit++) {
            NibbleEngine x = Check.told("at 0 packed " + digit + " in 1;");
            Edge.due("of " + digit, due[digit], () -> x.rounds(0, 1, 1));
        }
    }

    private static long shifted(String laid, int n, int r) {
        NibbleEngine x = Check.told("at 0 #" + laid + ";shift 0:3 -" + n + " " + r + ";");
        x.steps(1);
        return x.number(0, 3, false);
    }

    private static void promise16() {
        Edge.says("Promise 16", "IllegalArgumentException (ahead): LENGTH, not all in the STORE.");
        for (int i : new int[] {-1, -2, 0, 99, Bench.LEAST}) {
            field(32, (x, place, length) -> x.unedited(place, length, 0, i));
            field(32, (x, place, length) -> x.unedited(0, length, place, i));
        }
        NibbleEngine x = Check.told("at 0 #" + Bench.times("f0", 256) + ";");
        Edge.due("32 bytes at both ends", 2, () -> x.unedited(0, 32, 224, -1));
        Edge.due("32 bytes at both ends, too", 2, () -> x.unedited(224, 32, 0, -1));
        Edge.due("1 byte at both ends", 2, () -> x.unedited(0, 1, 255, -1));
        Edge.due("the same bytes", 2, () -> x.unedited(255, 1, 255, -1));
    }

    private static void promise16None() {
        Edge.says("Promise 16", "UNEDITED, by the PATTERN of LENGTH (1 to 32) at a PLACE, from the bytes at another "
                + "PLACE on: how many (i NONE); of the first one the i-th digit (0 on), the SIGN (i -2: 0 above, 1 "
                + "below).");
        NibbleEngine told = Check.told("at 0 #40205c;at 10 #40f740;at 20 #40f75c;at 255 #20;at 254 #f9;");
        int[][] due = {{1, 7, 0}, {1, 7, 1}};
        for (int sign = 0; sign < 2; sign++) {
            int place = 10 + 10 * sign;
            int[] row = due[sign];
            Edge.due("how many at " + place, row[0], () -> told.unedited(0, 3, place, -1));
            Edge.due("the digit at " + place, row[1], () -> told.unedited(0, 3, place, 0));
            Edge.due("the SIGN at " + place, row[2], () -> told.unedited(0, 3, place, -2));
        }
        Edge.due("a PATTERN of one byte at the end", 9, () -> told.unedited(255, 1, 254, 0));

        Edge.says("Promise 16", "NoSuchElementException: there is none, no such digit.");
        NibbleEngine x = Check.told("at 0 #402020;at 10 #40f1f2;at 20 #40f1ff;at 30 #405c;at 40 #4040;at 50 #405c;");
        Edge.due("two", 2, () -> x.unedited(0, 3, 10, -1));
        Edge.due("the first digit", 1, () -> x.unedited(0, 3, 10, 0));
        Edge.due("the last digit", 2, () -> x.unedited(0, 3, 10, 1));
        Edge.due("the SIGN", 0, () -> x.unedited(0, 3, 10, -2));
        for (int i : new int[] {-3, -4, 2, 3, Bench.LEAST, Bench.MOST}) {
            Edge.none("i " + i, () -> x.unedited(0, 3, 10, i));
            Edge.asks("i " + i, y -> y.unedited(0, 3, 0, i));
        }
        Edge.due("none", 0, () -> x.unedited(0, 3, 20, -1));
        for (int i : new int[] {-3, -2, 0, 1, 2, Bench.LEAST, Bench.MOST}) {
            Edge.none("none, i " + i, () -> x.unedited(0, 3, 20, i));
        }
        Edge.due("without digits, two", 2, () -> x.unedited(30, 2, 40, -1));
        Edge.due("without digits, the SIGN", 0, () -> x.unedited(30, 2, 40, -2));
        Edge.none("without digits, no digit", () -> x.unedited(30, 2, 40, 0));
        Edge.due("without digits, none", 0, () -> x.unedited(30, 2, 50, -1));
        Edge.none("without digits, no SIGN", () -> x.unedited(30, 2, 50, -2));
    }

    private static void unedited() {
        Edge.says("Terms 3", "UNEDITED: a PATTERN that is told takes as many digits as it has bytes 32, 33; SOURCES "
                + "are rows of so many digits with a SIGN, above 0 or below, behind the last one.");
        NibbleEngine x = Check.told("at 0 #f02020;at 10 #f0f0f0;at 20 #4021225c20;at 30 #40f140405c;at 40 #f3202023;at 50 #f3f3f3f3;"
                + "at 60 #40205c;at 70 #40f55c;at 80 #40f540;");
        Edge.due("0 and 0 alone, above and below", 2, () -> x.unedited(0, 3, 10, -1));
        Edge.none("no third digit", () -> x.unedited(0, 3, 10, 2));
        Edge.due("behind 34 SEEN is off", 0, () -> x.unedited(20, 5, 30, -1));
        for (int other : new int[] {0xfa, 0xff, 0xef, 0xe1, 0x05, 0x20}) {
            NibbleEngine y = Check.told("at 0 #4020;at 10 #40f9;");
            Edge.due("a byte F9", 2, () -> y.unedited(0, 2, 10, -1));
            y.lay(11, other);
            Edge.due("a byte that no digit gives, " + other, 0, () -> y.unedited(0, 2, 10, -1));
        }
        // FILL f3: 0 ahead or 3 in each, then 23 must be FILL, too: above, or 0 throughout
        Edge.due("a FILL like a digit", 4, () -> x.unedited(40, 4, 50, -1));
        Edge.due("the first one is 0", 0, () -> x.unedited(40, 4, 50, 0));
        Edge.due("throughout", 0, () -> x.unedited(40, 4, 50, 1));
        Edge.due("below 0 alone", 1, () -> x.unedited(60, 3, 70, -1));
        Edge.due("its SIGN", 1, () -> x.unedited(60, 3, 70, -2));
        Edge.due("above 0 alone", 1, () -> x.unedited(60, 3, 80, -1));
        Edge.due("its SIGN, too", 0, () -> x.unedited(60, 3, 80, -2));
        StringBuilder all = new StringBuilder("f1");
        for (int i = 1; i < 32; i++) {
            all.append(i % 2 == 1 ? "20" : "22");
        }
        NibbleEngine most = Check.told("at 0 #" + all + ";at 32 #" + Bench.times("f1", 32) + ";at 64 #" + Bench.times("20", 32) + ";at 96 #"
                + Bench.times("f1", 32) + ";");
        Edge.due("two ways for each of 16 digits, and two SIGNS", 131072, () -> most.unedited(0, 32, 32, -1));
        Edge.due("32 digits", 2, () -> most.unedited(64, 32, 96, -1));
        Edge.due("the 32nd", 1, () -> most.unedited(64, 32, 96, 31));
        Edge.none("no 33rd", () -> most.unedited(64, 32, 96, 32));
    }

    /** All SOURCES of three digits, edited by 'edit' itself. */
    private static void sources() {
        Edge.says("Terms 3", "Which of them, edited as in 'edit' (the SIGN is passed over with the last digit; without "
                + "digits never), would give just the bytes that stand from a PLACE on: how many; of the first one "
                + "(as rows, digit by digit, then above 0 ahead of below) the digits and the SIGN.");
        String[] patterns = {"4020204b2060", "f021202060", "f520222022205c", "2020205c", "40215c212122c3", "f321f32020f3"};
        for (String pattern : patterns) {
            int length = pattern.length() / 2;
            Map<String, Integer> many = new HashMap<>();
            Map<String, Integer> first = new HashMap<>();
            for (int number = 0; number < 2000; number++) {
                String source = String.format("%03d%s", number / 2, number % 2 == 0 ? "c" : "d");
                NibbleEngine x = Check.told("at 0 #" + pattern + ";at 100 #" + source + ";edit 0:" + length + " 100;");
                x.steps(1);
                String bytes = Check.bytes(x, 0, length);
                many.merge(bytes, 1, Integer::sum);
                first.putIfAbsent(bytes, number);
            }
            for (Map.Entry<String, Integer> one : many.entrySet()) {
                int number = first.get(one.getKey());
                if (one.getValue() > 2 || number % 37 == 0) {
                    NibbleEngine x = Check.told("at 0 #" + pattern + ";at 50 #" + one.getKey() + ";");
                    String what = pattern + " to " + one.getKey();
                    Edge.due(what, one.getValue(), () -> x.unedited(0, length, 50, -1));
                    Edge.due(what + ", the SIGN", number % 2, () -> x.unedited(0, length, 50, -2));
                    Edge.due(what + ", the first digit", number / 200, () -> x.unedited(0, length, 50, 0));
                    Edge.due(what + ", the second digit", number / 20 % 10, () -> x.unedited(0, length, 50, 1));
                    Edge.due(what + ", the third digit", number / 2 % 10, () -> x.unedited(0, length, 50, 2));
                }
            }
        }
    }
}
