import java.util.NoSuchElementException;

/** Promises 6 to 16: what stands there, WHY, and what is worked out of FIELDS. */
public final class FieldTest {
    private static final Class<NoSuchElementException> NONE = NoSuchElementException.class;
    private static final Class<IllegalArgumentException> WRONG = IllegalArgumentException.class;
    private static final int[] FAR = {Integer.MIN_VALUE, -1, Integer.MAX_VALUE};

    public static void main(String[] args) {
        promises6To10();
        promise11();
        promise12();
        promise13();
        promise14();
        promise15();
        promise16();
        promise16Signs();
        promise16Many();
        Check.end("FieldTest");
    }

    private static void promises6To10() {
        NibbleEngine x = Check.told("at 0 #00ff;at 255 #7f;load %7 200;guard 8 a;a:count %7 a;guard 8;");
        Check.due("6: at", 255, () -> x.at(1));
        Check.due("6: the last one", 127, () -> x.at(255));
        Check.refused("6: behind it", NONE, () -> x.at(256));
        x.steps(4);
        Check.due("7: register", 198, () -> x.register(7));
        Check.refused("7: behind it", NONE, () -> x.register(8));
        Check.due("8: guarded", 2, () -> x.guard(8));
        Check.due("8: not guarded", -1, () -> x.guard(1));
        Check.refused("8: no kind 0", NONE, () -> x.guard(0));
        Check.refused("8: no kind 9", NONE, () -> x.guard(9));
        Check.due("9: done", 2, () -> x.done(2));
        Check.due("9: never", 0, () -> x.done(3));
        Check.refused("9: behind it", NONE, () -> x.done(4));
        Check.due("10: the latest", 2, () -> x.trace(0));
        Check.due("10: ahead of it", 1, () -> x.trace(2));
        Check.due("10: the first", 0, () -> x.trace(3));
        Check.refused("10: none ahead", NONE, () -> x.trace(4));
        for (int far : FAR) {
            Check.refused("6: far", NONE, () -> x.at(far));
            Check.refused("7: far", NONE, () -> x.register(far));
            Check.refused("8: far", NONE, () -> x.guard(far));
            Check.refused("9: far", NONE, () -> x.done(far));
            Check.refused("10: far", NONE, () -> x.trace(far));
        }
        x.steps(50);
        x.steps(20);
        Check.due("10: 64 are kept", 64, () -> x.count(8));
        Check.due("10: the latest of 74", 2, () -> x.trace(0));
        Check.due("10: the 64th", 2, () -> x.trace(63));
        Check.refused("10: no 65th", NONE, () -> x.trace(64));
        Check.due("9: 72 times", 72, () -> x.done(2));
        NibbleEngine y = Check.told("a:halt;b:back;");
        y.steps(1);
        y.next(1);
        for (int i = 0; i < 70; i++) {
            y.next(i % 2);
            y.steps(1);
        }
        Check.due("10: in turn", 1, () -> y.trace(0));
        Check.due("10: in turn, too", 0, () -> y.trace(1));
        Check.due("10: the oldest", 0, () -> y.trace(63));
        Check.due("9: the first one, 36 times", 36, () -> y.done(0));
        Check.due("9: the second one, 35 times", 35, () -> y.done(1));
    }

    private static void why(String text, int steps, int... cause) {
        NibbleEngine x = Check.told(text);
        x.steps(steps);
        for (int i = 0; i < 9; i++) {
            int level = i / 3;
            int what = i % 3;
            if (i < cause.length) {
                Check.due("11: " + text + " " + level + " " + what, cause[i], () -> x.why(level, what));
            } else {
                Check.refused("11: " + text + " " + level + " " + what, NONE, () -> x.why(level, what));
            }
        }
        Check.refused("11: what below", NONE, () -> x.why(0, -1));
        Check.refused("11: what above", NONE, () -> x.why(0, 3));
        Check.refused("11: level below", NONE, () -> x.why(-1, 0));
        Check.refused("11: level below, far", NONE, () -> x.why(Integer.MIN_VALUE, 0));
        Check.refused("11: level above", NONE, () -> x.why(3, 0));
        Check.refused("11: level above, far", NONE, () -> x.why(Integer.MAX_VALUE, 2));
        Check.refused("11: what far", NONE, () -> x.why(1, Integer.MAX_VALUE));
    }

    private static void promise11() {
        Check.refused("11: no FAULT", NONE, () -> Check.told("halt;").why(0, 0));
        String packed = "at 0 packed 12 in 4;at 10 packed 3 in 2;";
        why(packed + "test 0:1;add 250:7 0:1;", 2, 1, 1, 1, 0, 250, 7);
        why("plus %1 -9;add 0:1 3%1:2;", 2, 1, 1, 1, 1, -6, 2);
        why("copy 0:20 240;", 1, 1, 0, 0, 1, 240, 20);
        why("dec %1 249;", 1, 1, 0, 0, 0, 249, 8);
        why("bin %1 255;", 1, 1, 0, 0, 0, 255, 8);
        why("edit 250:7 0;", 1, 1, 0, 0, 0, 250, 7);
        why("at 0 #4020202020;at 254 #1234;edit 0:5 254;halt;", 5);
        why("at 0 #402020202020;at 254 #1234;edit 0:6 254;halt;", 5, 1, 0, 0, 1, 256, 1);
        why("at 0 #2020202020;at 4 #20;edit 0:5 1;", 5, 4, 0, 0, 1, 3, 1, 3, 0, 15);
        why("at 0 #402020;edit 0:3 255%1;plus %1 1;edit 0:3 255%1;", 1);
        why("at 0 #402020;plus %1 1;edit 0:3 255%1;", 2, 1, 1, 1, 1, 256, 1);
        why("at 0 #402020;plus %1 -1;edit 0:3 0%1;", 2, 1, 1, 1, 1, -1, 1);
        why("at 0 #4020202020;at 20 #1da0;edit 0:5 20;", 1, 4, 0, 0, 1, 21, 1, 21, 0, 10);
        why(packed + "mul 0:4 10:4;", 1, 2, 0, 0, 1, 10, 4);
        why(packed + "div 0:16 10:9;", 1, 2, 0, 0, 1, 10, 9);
        why(packed + "add 0:4 1:2;", 1, 3, 0, 0, 1, 1, 2);
        why(packed + "add 0:4 20:2;", 1, 4, 0, 0, 1, 20, 2, 21, 1, 0);
        why("at 0 #1a2b;add 0:2 20:2;", 1, 4, 0, 0, 0, 0, 2, 0, 1, 10);
        why("at 0 #f12c;shift 0:2 1 1;", 1, 4, 0, 0, 0, 0, 2, 0, 0, 15);
        why("at 0 #00700c;at 9 #1c;mul 0:3 9:1;halt;", 1);
        why("at 0 #07700c;at 9 #1c;mul 0:3 9:1;", 1, 5, 0, 0, 0, 0, 3, 0, 1, 7);
        why("at 0 #00700c;at 9 #001c;mul 0:3 9:2;", 1, 5, 0, 0, 0, 0, 3, 1, 0, 7);
        why("at 0 #9c;guard 6 a;add 0:1 0:1;a:halt;", 9, 6, 1, 1, 0, 0, 1);
        why(packed + "at 10 #000c;div 0:4 10:2;", 1, 7, 0, 0, 0, 0, 4);
        why("at 8 packed 2147483648 in 8;bin %3 8;", 1, 8, 0, 0, 0, 8, 8);
        NibbleEngine x = Check.told("guard 4 b;add 0:1 0:1;b:add 200%2:1 0:1;");
        x.set(2, 100);
        x.steps(3);
        Check.due("11: the latest FAULT", 1, () -> x.why(0, 0));
        Check.due("11: its INSTRUCTION", 2, () -> x.why(0, 1));
        Check.due("11: its TIME", 2, () -> x.why(0, 2));
        Check.due("11: its ADDRESS", 300, () -> x.why(1, 1));
        Check.refused("11: no HALF any more", NONE, () -> x.why(2, 0));
        x.begin();
        Check.due("11: stays when it begins anew", 1, () -> x.why(0, 0));
        x.undo();
        x.undo();
        Check.refused("11: undone", NONE, () -> x.why(0, 0));
    }

    private static void flaws(NibbleEngine x, int place, int length, boolean zoned, int... flaws) {
        String what = "12: " + place + ":" + length + " " + zoned + " ";
        Check.due(what, flaws.length, () -> x.flaws(place, length, zoned, -1));
        for (int i = 0; i < flaws.length; i++) {
            int which = i;
            Check.due(what + i, flaws[i], () -> x.flaws(place, length, zoned, which));
        }
        Check.refused(what + "behind them", NONE, () -> x.flaws(place, length, zoned, flaws.length));
        Check.refused(what + "-2", NONE, () -> x.flaws(place, length, zoned, -2));
        Check.refused(what + "far", NONE, () -> x.flaws(place, length, zoned, Integer.MAX_VALUE));
    }

    private static void promise12() {
        NibbleEngine x = Check.told("at 0 #123c;at 10 #1a23b9;at 20 #f1f2d3;at 30 #e1faca;at 40 #90;at 41 #ff;"
                + "at 192 #f0;");
        flaws(x, 0, 2, false);
        flaws(x, 0, 1, false, 1);
        flaws(x, 10, 3, false, 21, 24, 25);
        flaws(x, 20, 3, true);
        flaws(x, 20, 2, true);
        flaws(x, 20, 3, false, 40, 42, 44, 45);
        flaws(x, 30, 3, true, 60, 63, 65);
        flaws(x, 40, 1, true, 80);
        flaws(x, 41, 1, true, 83);
        flaws(x, 41, 1, false, 82);
        flaws(x, 255, 1, false, 511);
        flaws(x, 255, 1, true, 510);
        Check.due("12: 64 bytes, the first one sound", 63, () -> x.flaws(192, 64, true, -1));
        Check.due("12: the last of 63", 510, () -> x.flaws(192, 64, true, 62));
        for (int length : new int[] {0, 65, -1, Integer.MIN_VALUE, Integer.MAX_VALUE}) {
            Check.refused("12: LENGTH " + length, WRONG, () -> x.flaws(0, length, false, -1));
            Check.refused("12: LENGTH ahead " + length, WRONG, () -> x.flaws(0, length, false, 99));
        }
        Check.refused("12: beyond", WRONG, () -> x.flaws(193, 64, false, -1));
        Check.refused("12: before", WRONG, () -> x.flaws(-1, 1, false, -1));
        Check.refused("12: far", WRONG, () -> x.flaws(Integer.MAX_VALUE, 1, false, 700));
    }

    private static void promise13() {
        NibbleEngine x = Check.told("at 0 #1a2b3c4d5e6f;at 10 zoned -120 in 4;at 20 packed 999999999999999999 in 16;"
                + "at 40 packed 1000000000000000000 in 16;at 60 packed -999999999999999999 in 10;"
                + "at 80 zoned 1234567890123456 in 16;at 100 #0d;at 101 #f5b6;at 240 packed 3 in 16;");
        long[] numbers = {1, -2, 3, -4, 5, 6};
        for (int i = 0; i < 6; i++) {
            int place = i;
            Check.due("13: SIGN at " + i, numbers[i], () -> x.number(place, 1, false));
        }
        Check.due("13: zoned", -120, () -> x.number(10, 4, true));
        Check.due("13: 18 digits", 999999999999999999L, () -> x.number(20, 16, false));
        Check.due("13: below", -999999999999999999L, () -> x.number(60, 10, false));
        Check.due("13: 16 zoned", 1234567890123456L, () -> x.number(80, 16, true));
        Check.due("13: zoned B", -56, () -> x.number(101, 2, true));
        Check.due("13: 0, whatever the SIGN", 0, () -> x.number(100, 1, false));
        Check.due("13: to the end", 3, () -> x.number(240, 16, false));
        Check.refused("13: 19 digits", ArithmeticException.class, () -> x.number(40, 16, false));
        Check.refused("13: FLAWS", NONE, () -> x.number(10, 4, false));
        Check.refused("13: FLAWS as ZONED", NONE, () -> x.number(0, 1, true));
        for (int length : new int[] {0, 17, -5, Integer.MAX_VALUE, Integer.MIN_VALUE}) {
            Check.refused("13: LENGTH " + length, WRONG, () -> x.number(0, length, false));
        }
        Check.refused("13: beyond", WRONG, () -> x.number(241, 16, false));
        Check.refused("13: before", WRONG, () -> x.number(-1, 1, true));
        Check.refused("13: beyond, far", WRONG, () -> x.number(Integer.MAX_VALUE, 16, true));
    }

    private static void promise14() {
        NibbleEngine x = Check.told("at 0 #9c;at 1 #1c;at 2 #1d;at 3 #0d;at 10 packed 999 in 2;at 20 packed -999 in 4;"
                + "at 30 packed 9999999999999999999999999999999 in 16;at 50 packed 1 in 16;at 70 #00;");
        Check.due("14: 9 + 1", 2, () -> x.need(0, 0, 1, 1, 1));
        Check.due("14: 9 - 1", 1, () -> x.need(1, 0, 1, 1, 1));
        Check.due("14: 9 + -1", 1, () -> x.need(0, 0, 1, 2, 1));
        Check.due("14: 9 - -1", 2, () -> x.need(1, 0, 1, 2, 1));
        Check.due("14: 9 * 1", 1, () -> x.need(2, 0, 1, 1, 1));
        Check.due("14: 9 * 9", 2, () -> x.need(2, 0, 1, 0, 1));
        Check.due("14: 9 * 0", 1, () -> x.need(2, 0, 1, 3, 1));
        Check.due("14: 0 + 0", 1, () -> x.need(0, 3, 1, 3, 1));
        Check.due("14: 999 + 1", 3, () -> x.need(0, 10, 2, 1, 1));
        Check.due("14: 999 + -999", 1, () -> x.need(0, 10, 2, 20, 4));
        Check.due("14: 1 - 999", 2, () -> x.need(1, 1, 1, 10, 2));
        Check.due("14: 999 * 999", 4, () -> x.need(2, 10, 2, 20, 4));
        Check.due("14: 31 digits + 1", 17, () -> x.need(0, 30, 16, 50, 16));
        Check.due("14: 31 digits * 31 digits", 32, () -> x.need(2, 30, 16, 30, 16));
        Check.refused("14: FLAWS of the first", NONE, () -> x.need(0, 70, 1, 0, 1));
        Check.refused("14: FLAWS of the second", NONE, () -> x.need(0, 0, 1, 70, 1));
        for (int how : new int[] {-1, 3, Integer.MIN_VALUE, Integer.MAX_VALUE}) {
            Check.refused("14: how " + how, WRONG, () -> x.need(how, 0, 1, 0, 1));
            Check.refused("14: how ahead " + how, WRONG, () -> x.need(how, 70, 1, 0, 1));
        }
        for (int length : new int[] {0, 17, -1, Integer.MAX_VALUE}) {
            Check.refused("14: LENGTH " + length, WRONG, () -> x.need(0, 0, length, 0, 1));
            Check.refused("14: the other LENGTH " + length, WRONG, () -> x.need(0, 70, 1, 0, length));
        }
        Check.refused("14: beyond", WRONG, () -> x.need(0, 255, 2, 0, 1));
        Check.refused("14: the other beyond", WRONG, () -> x.need(0, 70, 1, 256, 1));
        Check.refused("14: before", WRONG, () -> x.need(0, -1, 1, 0, 1));
    }

    private static void promise15() {
        NibbleEngine x = Check.told("at 0 packed 1059 in 4;at 10 packed -5 in 1;at 20 #00;"
                + "at 30 packed 9999999999999999999999999999999 in 16;at 240 packed 0 in 16;");
        Check.due("15: by 1, 9 goes out last", 0x3fe, () -> x.rounds(0, 4, 1));
        Check.due("15: by 2, 5", 0x3e0, () -> x.rounds(0, 4, 2));
        Check.due("15: by 3, 0", 0, () -> x.rounds(0, 4, 3));
        Check.due("15: by 4, 1", 0x200, () -> x.rounds(0, 4, 4));
        Check.due("15: below 0", 0x3e0, () -> x.rounds(10, 1, 1));
        Check.due("15: beyond its digits", 0, () -> x.rounds(10, 1, 32));
        Check.due("15: the 31st digit", 0x3fe, () -> x.rounds(30, 16, 31));
        Check.due("15: a 32nd", 0, () -> x.rounds(30, 16, 32));
        Check.due("15: 0", 0, () -> x.rounds(240, 16, 1));
        Check.refused("15: FLAWS", NONE, () -> x.rounds(20, 1, 1));
        for (int n : new int[] {0, 33, -1, Integer.MIN_VALUE, Integer.MAX_VALUE}) {
            Check.refused("15: n " + n, WRONG, () -> x.rounds(20, 1, n));
            Check.refused("15: LENGTH " + n, WRONG, () -> x.rounds(20, n, 1));
        }
        Check.refused("15: LENGTH 17", WRONG, () -> x.rounds(20, 17, 1));
        Check.refused("15: beyond", WRONG, () -> x.rounds(241, 16, 1));
        Check.refused("15: before", WRONG, () -> x.rounds(-1, 1, 1));
    }

    private static void unedited(String pattern, String bytes, long many, int sign, int... digits) {
        NibbleEngine x = Check.told("at 0 #" + pattern + ";at 100 #" + bytes + ";");
        int length = pattern.length() / 2;
        String what = "16: " + pattern + " " + bytes + " ";
        Check.due(what, many, () -> x.unedited(0, length, 100, -1));
        for (int i = 0; i < digits.length; i++) {
            int which = i;
            Check.due(what + i, digits[i], () -> x.unedited(0, length, 100, which));
        }
        Check.refused(what + "behind them", NONE, () -> x.unedited(0, length, 100, digits.length));
        Check.refused(what + "-3", NONE, () -> x.unedited(0, length, 100, -3));
        if (many > 0) {
            Check.due(what + "SIGN", sign, () -> x.unedited(0, length, 100, -2));
        } else {
            Check.refused(what + "SIGN", NONE, () -> x.unedited(0, length, 100, -2));
        }
    }

    private static void promise16() {
        // fill 40; three digits, a point ahead of the last one
        unedited("402020" + "4b" + "20", "4040f1" + "4b" + "f2", 2, 0, 0, 1, 2);
        unedited("402020" + "4b" + "20", "40f1f0" + "4b" + "f0", 2, 0, 1, 0, 0);
        unedited("402020" + "4b" + "20", "404040" + "40" + "40", 2, 0, 0, 0, 0);
        unedited("402020" + "4b" + "20", "404040" + "40" + "f5", 2, 0, 0, 0, 5);
        unedited("402020" + "4b" + "20", "404040" + "4b" + "f5", 0, 0);
        unedited("402020" + "4b" + "20", "4040f1" + "40" + "f2", 0, 0);
        // 33 shows what comes behind it
        unedited("402120" + "20", "4040f0f0", 2, 0, 0, 0, 0);
        unedited("402120" + "20", "40404040", 0, 0);
        unedited("4021", "40f7", 2, 0, 7);
        unedited("4021", "4040", 2, 0, 0);
        // 34 lays the fill again
        unedited("40202220" + "5c", "40f140f25c", 1, 1, 1, 2);
        unedited("40202220", "40f14040", 2, 0, 1, 0);
        unedited("40202220", "40f122f2", 0, 0);
        // without digits the SIGN is never passed over
        unedited("40", "40", 2, 0);
        unedited("404b", "4040", 2, 0);
        unedited("404b", "404b", 0, 0);
        unedited("405c", "5c5c", 0, 0);
        // the first byte takes a digit, too: the fill is 20
        unedited("2020", "20f3", 2, 0, 0, 3);
        unedited("2120", "21f0", 2, 0, 0, 0);
        unedited("2120", "f121", 0, 0);
        unedited("22", "22", 2, 0);
    }

    private static void promise16Signs() {
        // what stands behind the last digit stays only if the SIGN is below 0
        unedited("4020" + "60", "40f5" + "60", 1, 1, 5);
        unedited("4020" + "60", "40f5" + "40", 1, 0, 5);
        unedited("4020" + "60", "4040" + "40", 2, 0, 0);
        unedited("4021" + "60", "4040" + "60", 1, 1, 0);
        unedited("4020" + "6040", "40f5" + "4040", 1, 0, 5);
        unedited("4020" + "4040", "40f5" + "4040", 2, 0, 5);
        unedited("4020" + "22" + "60", "40f5" + "40" + "40", 2, 0, 5);
        unedited("402020" + "c3d9", "40f1f2" + "c3d9", 1, 1, 1, 2);
        unedited("402020" + "c3d9", "40f1f2" + "4040", 1, 0, 1, 2);
        unedited("402020" + "c3d9", "40f1f0" + "c3d9", 1, 1, 1, 0);
        unedited("402020" + "c3d9", "40f1f2" + "40d9", 0, 0);
    }

    private static void promise16Many() {
        // a fill that looks like a digit: 0 ahead and 3 are laid alike
        unedited("f32020", "f3f3f3", 6, 0, 0, 0);
        unedited("f32020", "f3f3f0", 2, 0, 3, 0);
        unedited("f02020", "f0f0f0", 2, 0, 0, 0);
        StringBuilder pattern = new StringBuilder("f1");
        StringBuilder bytes = new StringBuilder("f1");
        int[] first = new int[31];
        for (int i = 1; i < 32; i++) {
            pattern.append("20");
            bytes.append("f1");
        }
        // as many 0 ahead as there may be, then 1 throughout
        unedited(pattern.toString(), bytes.toString(), 64, 0, first);
        pattern.setLength(2);
        for (int i = 1; i < 32; i++) {
            pattern.append(i % 2 == 1 ? "20" : "22");
        }
        unedited(pattern.toString(), bytes.toString(), 1 << 17, 0, new int[16]);
        NibbleEngine x = new NibbleEngine();
        for (int length : new int[] {0, 33, -1, Integer.MAX_VALUE, Integer.MIN_VALUE}) {
            Check.refused("16: LENGTH " + length, WRONG, () -> x.unedited(0, length, 100, 77));
        }
        Check.refused("16: the PATTERN beyond", WRONG, () -> x.unedited(255, 2, 0, -1));
        Check.refused("16: the bytes beyond", WRONG, () -> x.unedited(0, 2, 255, -1));
        Check.refused("16: before", WRONG, () -> x.unedited(-1, 2, 0, -1));
        Check.refused("16: before, too", WRONG, () -> x.unedited(0, 2, -1, 5));
        Check.refused("16: far", WRONG, () -> x.unedited(Integer.MAX_VALUE, 2, Integer.MAX_VALUE, 5));
        Check.refused("16: no digit, far", NONE, () -> x.unedited(0, 2, 0, Integer.MIN_VALUE));
        Check.due("16: to the end", 2, () -> x.unedited(224, 32, 224, -1));
    }
}
