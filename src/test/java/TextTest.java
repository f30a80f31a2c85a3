import java.util.NoSuchElementException;

/** Promises 1 to 5: a new object, the tape, what a TEXT tells, its FAULTS, what is counted. */
public final class TextTest {
    public static void main(String[] args) {
        promise1();
        promise2();
        promise3();
        promise3Laying();
        promise3Forms();
        promise3Names();
        promise3Again();
        promise3Cut();
        promise4();
        promise4TooMuch();
        promise5();
        Check.end("TextTest");
    }

    private static void promise1() {
        NibbleEngine x = new NibbleEngine();
        for (int place = 0; place < 256; place++) {
            int at = place;
            Check.due("1: at " + at, 0, () -> x.at(at));
        }
        for (int i = 0; i < 8; i++) {
            int which = i;
            Check.due("1: register " + i, 0, () -> x.register(which));
            Check.due("1: guard " + (i + 1), -1, () -> x.guard(which + 1));
        }
        int[] counts = {0, 1, 0, 0, -1, 0, 0, 0, 0, 0, 0, 0, 0, 0, 0};
        for (int i = 0; i < counts.length; i++) {
            int what = i;
            Check.due("1: count " + i, counts[i], () -> x.count(what));
        }
        Check.due("1: fault", -1, () -> x.fault());
        Check.due("1: no image", false, x.restore());
        Check.refused("1: why", NoSuchElementException.class, () -> x.why(0, 0));
        Check.due("1: objects apart", 0, () -> {
            new NibbleEngine().lay(3, 9);
            return x.at(3);
        });
    }

    private static void promise2() {
        NibbleEngine x = new NibbleEngine();
        Check.due("2: twenty bytes", 20, () -> x.feed(0x68616c74, 0x3b202020, 0x20202020, 0x20202020, 0x2020203f));
        Check.due("2: forty", 40, () -> x.feed(-1, 0, 0, 0, 0));
        Check.due("2: the highest byte first", 0, () -> x.program(5));
        Check.due("2: one instruction", 1, () -> x.count(5));
        Check.due("2: emptied", 0, () -> x.count(11));
        Check.due("2: again", 20, () -> x.feed(0x68616c74, 0x3b202020, 0x20202020, 0x20202020, 0x2020203f));
        Check.due("2: the last byte is strange", 1, () -> x.program(20));
        Check.due("2: at its place", 19, () -> x.fault());
        NibbleEngine full = new NibbleEngine();
        for (int i = 1; i <= 35; i++) {
            int times = i;
            Check.due("2: feed " + i, 20 * i, () -> full.feed(times, 0, 0, 0, 0x20202020));
        }
        Check.due("2: 700 are the most", -1, () -> full.feed(1, 2, 3, 4, 5));
        Check.due("2: none came", 700, () -> full.count(11));
    }

    private static void promise3() {
        NibbleEngine x = Check.told("at 9 #07;a:halt;");
        x.lay(0, 5);
        x.note(0, 0, 5);
        x.image();
        Check.feed(x, "halt;halt;?");
        Check.refused("3: below 0", IllegalArgumentException.class, () -> x.program(-1));
        Check.refused("3: not so many", IllegalArgumentException.class, () -> x.program(21));
        Check.due("3: the tape stays", 20, () -> x.count(11));
        Check.due("3: a fault", 1, () -> x.program(11));
        Check.due("3: it is empty then", 0, () -> x.count(11));
        Check.due("3: all else stays", 5, () -> x.at(0));
        Check.due("3: INSTRUCTIONS stay", 1, () -> x.count(5));
        Check.due("3: ACTS stay", 1, () -> x.count(9));
        Check.due("3: NOTED stays", 1, () -> x.count(10));
        Check.due("3: STATUS", 1, () -> x.count(12));
        Check.due("3: the image stays", true, x.restore());
        Check.due("3: STATUS as in the image", 0, () -> x.count(12));
        x.lay(300, 0);
        x.steps(1);
        Check.due("3: all anew", 0, () -> Check.program(x, "at 1 #08;halt;halt;"));
        int[] counts = {0, 0, 0, 0, -1, 2, 0, 2, 0, 0, 0, 0, 0, 1, 0};
        for (int i = 0; i < counts.length; i++) {
            int what = i;
            Check.due("3: count " + i, counts[i], () -> x.count(what));
        }
        Check.due("3: laid", 8, () -> x.at(1));
        Check.due("3: what was is gone", 0, () -> x.at(9) + x.at(0));
        Check.due("3: the image is gone", false, x.restore());
        Check.due("3: none is undone", -1, () -> x.undo());
        Check.due("3: the empty TEXT", 0, () -> x.program(0));
        Check.due("3: no INSTRUCTIONS", 0, () -> x.count(5));
        Check.due("3: HALTED", 1, () -> x.count(1));
        Check.feed(x, "halt;???");
        Check.due("3: the first bytes alone", 0, () -> x.program(5));
        Check.due("3: the others are gone, too", 0, () -> x.count(11));
        NibbleEngine failed = Check.told("add 0:1 0:1;");
        failed.steps(1);
        Check.due("3: it has failed", 2, () -> failed.count(1));
        Check.program(failed, "halt;");
        Check.refused("3: no FAULTS of STEPS", NoSuchElementException.class, () -> failed.why(0, 0));
        Check.due("3: none ever", 0, () -> failed.count(6));
    }

    private static void promise3Laying() {
        NibbleEngine x = Check.told("at 0 packed 12 in 2;at 2 packed -5 in 1;at 3 packed 00123 in 3;at 250 zoned -12 in 3;"
                + "at 10 zoned 7 in 1;at 12 #0f;at 254 #a1b2;at 20 packed - 0 in 1 ;\nat 30#12;at 31 #34;at 30 #56;"
                + "at 40 packed 1234567890123456789012345678901 in 16;at 60 zoned 1234567890123456 in 16;");
        Check.bytes("3: packed", "012c5d00123c", x, 0);
        Check.bytes("3: zoned", "f0f1d2", x, 250);
        Check.bytes("3: one zoned", "c7", x, 10);
        Check.bytes("3: hex", "0f", x, 12);
        Check.bytes("3: to the end of the STORE", "a1b2", x, 254);
        Check.bytes("3: the sign D behind -", "0d", x, 20);
        Check.bytes("3: one line after the other", "5634", x, 30);
        Check.bytes("3: as much as has room", "1234567890123456789012345678901c", x, 40);
        Check.bytes("3: zoned, too", "f1f2f3f4f5f6f7f8f9f0f1f2f3f4f5c6", x, 60);
    }

    /** Each form is read to its end, and nothing more. */
    private static void promise3Forms() {
        String[] good = {"pack 0:1 255:16;", "unpack 0%0:16 255%7:1;", "offset 0 % 1 : 1 2:2;", "move 00:01 1:1;",
            "add 0:1 1:1;", "sub 0:1 1:1;", "compare 0:1 1:1;", "mul 0:1 1:16;", "div 0:1 1:1;", "copy 0:64 1%2;",
            "digits 0:1 255;", "zones 0:64 1;", "edit 0:64 1;", "mark 0:1 1%3;", "shift 0:1 31 9;", "shift 0:16-32 0;",
            "shift 0:1 - 0 0;", "pack 0:1 0%0:1;", "plus %0 -0;", "plus %0 0;", "guard 1 a;a:halt;", "on 0 a;a:halt;", "count %0 a;a:halt;", "bin %0 0;",
            "load %0 0;", "copy 0%0:1 0%0;", "shift 0:1 0 0;", "test 0:16;", "bin %7 1;", "dec %0 255;", "load %1 1%1;", "plus %1 9999;",
            "plus %1-9999;", "a:count %1 a;", "on 15 a;a:halt;", "guard 1;", "guard 8 a;a:back;", "abcdefgh:halt;",
            "a\n:\nhalt\n;\n", "", " \n ", "halt;halt;", "add0:1 1:1;", "shift 0:1-5 5;"};
        for (String text : good) {
            NibbleEngine x = new NibbleEngine();
            Check.due("3: " + text, 0, () -> Check.program(x, text));
            Check.due("3: no fault in " + text, -1, () -> x.fault());
        }
    }

    private static void fault(String text, int kind, int place) {
        NibbleEngine x = new NibbleEngine();
        Check.due("4: '" + text + "'", kind, () -> Check.program(x, text));
        Check.due("4: the place in '" + text + "'", place, () -> x.fault());
        Check.due("4: counted in STATUS", 1, () -> x.count(12));
    }

    private static void promise3Names() {
        NibbleEngine x = Check.told("on 15 second;first:halt;second:on 15 first;");
        x.steps(1);
        Check.due("3: a NAME further on", 2, () -> x.count(2));
        x.steps(1);
        Check.due("3: a NAME before", 1, () -> x.count(2));
        fault("halt;on 1 x;a:count %1 y;", 3, 10);
        fault("guard 3 x;", 3, 8);
        fault("on 1 x;halt", 1, 11);
        fault("on 1 x;a:halt;a:halt;", 4, 14);
        fault("a:halt;a", 4, 7);
        fault("a:halt;at 0 #00;a :halt;", 4, 16);
        fault("count %1 packed;", 1, 9);
        fault("on 1 on;", 1, 5);
        fault("guard 1 in;", 1, 8);
        fault("guard 1 1;", 1, 8);
        fault("abcdefghi:halt;", 2, 0);
        fault("on 1 abcdefghi;", 2, 5);
        fault("count %1 abcdefghi;", 2, 9);
        fault("guard 1 abcdefghi;", 2, 8);
        fault("a:abcdefghi;", 1, 2);
        fault("at abcdefghi", 1, 3);
    }

    /** Nothing of earlier PROGRAMS is left, how many there were. */
    private static void promise3Again() {
        NibbleEngine x = new NibbleEngine();
        for (int i = 0; i < 3; i++) {
            Check.program(x, "at 0 #112233;at 200 #44;a:mark 9%3:16 9%3;on 15 a;guard 3 a;shift 5%2:9 -7 9;");
            Check.program(x, "at 1 #55;add 9%3:16 9%3:16;guard 1 a;a:count %7 a;add 3%3:3 3%3:3;");
            Check.program(x, "load %1 255;edit 0:2 254;guard 1;guard 3;test 250:6;");
        }
        Check.bytes("3: STORE", "0000000000", x, 0);
        Check.due("3: STORE further on", 0, () -> x.at(200));
        Check.due("3: all without a FAULT", 5, () -> x.steps(50));
        Check.due("3: no FAULT", 0, () -> x.count(6));
        Check.due("3: load", 255, () -> x.register(1));
        Check.due("3: not GUARDED", -1, () -> x.guard(1));
        NibbleEngine y = new NibbleEngine();
        for (int i = 0; i < 3; i++) {
            Check.program(y, "add 0%1:16 0%1:16;copy 0:64 0;");
        }
        Check.program(y, "load %1 255%1;load %2 250;edit 255:1 255;edit 254:2 255%1;");
        y.set(1, 9);
        Check.due("3: operands are read anew", 4, () -> y.steps(4));
        Check.due("3: no FAULT of theirs", 0, () -> y.count(6));
        Check.due("3: an ADDRESS beyond", 264, () -> y.register(1));
        Check.due("3: without a REGISTER", 250, () -> y.register(2));
    }

    /** The TEXT ends behind n bytes, whatever stands behind them on the tape. */
    private static void promise3Cut() {
        String[] texts = {"halt     ", "halt;halt", "at 0 #0011", "add 0:17", "a:halt;", "on 1 abcdefghi;"};
        int[] many = {4, 8, 8, 7, 5, 13};
        int[] kinds = {1, 1, 1, 1, 1, 1};
        int[] places = {4, 8, 8, 7, 2, 13};
        for (int i = 0; i < texts.length; i++) {
            NibbleEngine x = new NibbleEngine();
            Check.feed(x, texts[i]);
            int n = many[i];
            Check.due("3: " + n + " bytes of " + texts[i], kinds[i], () -> x.program(n));
            Check.due("3: place of " + texts[i], places[i], () -> x.fault());
        }
        NibbleEngine x = new NibbleEngine();
        Check.feed(x, "halt;plus %1 12");
        Check.due("3: as far as n", 0, () -> x.program(5));
        Check.due("3: one INSTRUCTION", 1, () -> x.count(5));
    }

    private static void promise4() {
        fault("at;", 1, 2);
        fault("at 0;", 1, 4);
        fault("at 0 packed;", 1, 11);
        fault("at 0 packed 5;", 1, 13);
        fault("at 0 zoned -;", 1, 12);
        fault("at 0 packed 5 in;", 1, 16);
        fault("halt:halt;", 1, 4);
        fault("guard 1 halt;", 1, 8);
        fault("halt", 1, 4);
        fault("halt \n", 1, 6);
        fault("add", 1, 3);
        fault(";", 1, 0);
        fault("halt;;", 1, 5);
        fault("halt;#", 1, 5);
        fault("at 0 #;", 1, 5);
        fault("at 0 # 12;", 1, 5);
        fault("halt;Q", 1, 5);
        fault("halt;\thalt;", 1, 5);
        fault("halt\0;", 1, 4);
        fault("halt\u00e9;", 1, 4);
        fault("5:halt;", 1, 0);
        fault("packed 5;", 1, 0);
        fault("in 5;", 1, 0);
        fault("zoned:halt;", 1, 0);
        fault("a halt;", 1, 2);
        fault("a:b:halt;", 1, 2);
        fault("a:at 0 #00;", 1, 2);
        fault("a:;", 1, 2);
        fault("halt:", 1, 4);
        fault("at 0 packed 5 4;", 1, 14);
        fault("at 0 packed in 4;", 1, 12);
        fault("at 0 zoned - -5 in 4;", 1, 13);
        fault("at 0 5;", 1, 5);
        fault("at 0 halt;", 1, 5);
        fault("at #00;", 1, 3);
        fault("at 0 #00", 1, 8);
        fault("at 0%1 #00;", 1, 4);
        fault("add 0:1;", 1, 7);
        fault("add 0 1:1;", 1, 6);
        fault("add 0:1 1;", 1, 9);
        fault("add 0:1 1:1 2:1;", 1, 12);
        fault("add 0%:1 1:1;", 1, 6);
        fault("add 0:-1 1:1;", 1, 6);
        fault("copy 0:1 1:1;", 1, 10);
        fault("test 0;", 1, 6);
        fault("test %1;", 1, 5);
        fault("shift 0:1 5;", 1, 11);
        fault("shift 0:1 5 -5;", 1, 12);
        fault("bin 0 0;", 1, 4);
        fault("bin %1;", 1, 6);
        fault("load %1 -5;", 1, 8);
        fault("plus %1;", 1, 7);
        fault("plus %1 --5;", 1, 9);
        fault("count 1 a;", 1, 6);
        fault("count %1;", 1, 8);
        fault("on;", 1, 2);
        fault("on 5;", 1, 4);
        fault("guard;", 1, 5);
        fault("guard a;", 1, 6);
        fault("back 5;", 1, 5);
        fault("halt a;", 1, 5);
    }

    private static void promise4TooMuch() {
        fault("at 256 #00;", 2, 3);
        fault("at 99999999999999999999 #00;", 2, 3);
        fault("at 0 #0;", 2, 5);
        fault("at 0 #012;", 2, 5);
        fault("at 255 #0000;", 2, 7);
        fault("at 255 #00;at 256", 2, 14);
        fault("at 255 packed 1 in 2;", 2, 19);
        fault("at 0 packed 12 in 1;", 2, 18);
        fault("at 0 packed 00 in 1;", 2, 18);
        fault("at 0 packed 1234 in 2;", 2, 20);
        fault("at 0 zoned 12 in 1;", 2, 17);
        fault("at 0 packed 1 in 0;", 2, 17);
        fault("at 0 packed 1 in 17;", 2, 17);
        fault("at 0 packed 12345678901234567890123456789012 in 16;", 2, 48);
        fault("at 0 zoned 12345678901234567 in 17;", 2, 32);
        fault("add 256:1 0:1;", 2, 4);
        fault("add 0:0 0:1;", 2, 6);
        fault("add 0:17 0:1;", 2, 6);
        fault("add 0:1 0:17;", 2, 10);
        fault("add 0:1 256:1;", 2, 8);
        fault("add 0%8:1 0:1;", 2, 6);
        fault("add 0:1 0%9:1;", 2, 10);
        fault("test 0:17;", 2, 7);
        fault("copy 0:65 0;", 2, 7);
        fault("digits 0:0 0;", 2, 9);
        fault("zones 0:65 0;", 2, 8);
        fault("edit 0:65 0;", 2, 7);
        fault("mark 0:65 0;", 2, 7);
        fault("mark 0:64 256;", 2, 10);
        fault("shift 0:1 32 0;", 2, 10);
        fault("shift 0:1 -33 0;", 2, 11);
        fault("shift 0:1 1 10;", 2, 12);
        fault("shift 0:17 1 1;", 2, 8);
        fault("bin %8 0;", 2, 5);
        fault("dec %1 256;", 2, 7);
        fault("load %1 0%8;", 2, 10);
        fault("plus %1 10000;", 2, 8);
        fault("plus %1 -10000;", 2, 9);
        fault("on 16 a;", 2, 3);
        fault("guard 0;", 2, 6);
        fault("guard 9;", 2, 6);
        fault("count %8 a;", 2, 7);
        StringBuilder sixty = new StringBuilder();
        for (int i = 0; i < 60; i++) {
            sixty.append("halt;");
        }
        NibbleEngine x = Check.told(sixty.toString());
        Check.due("3: 60 INSTRUCTIONS", 60, () -> x.count(5));
        fault(sixty + "back;", 2, 300);
        fault(sixty + " a:back?", 2, 303);
        fault(sixty + "a", 1, 301);
        fault(sixty + "at 0 #00;5", 1, 309);
        Check.program(x, "at 0 #0");
        Check.due("4: the latest one", 2, () -> Check.program(x, "halt;at 0 #0;"));
        Check.due("4: its place", 10, () -> x.fault());
        Check.program(x, "halt;");
        Check.due("4: none without", -1, () -> x.fault());
        Check.due("4: STATUS stays", 2, () -> x.count(12));
    }

    private static void promise5() {
        NibbleEngine x = Check.told("at 0 packed 5 in 1;guard 4 g;add 0:1 0:1;add 1:1 0:1;halt;g:back;add 9:1 9:1;");
        x.feed(1, 2, 3, 4, 5);
        x.steps(5);
        x.lay(256, 0);
        x.note(0, 0, 0);
        x.note(0, 0, 0);
        x.note(0, 0, 256);
        int[] counts = {5, 1, 4, 0, 2, 6, 1, 1, 5, 1, 2, 20, 0, 1, 1};
        counts[3] = 3;
        for (int i = 0; i < counts.length; i++) {
            int what = i;
            Check.due("5: count " + i, counts[i], () -> x.count(what));
        }
        Check.refused("5: below", NoSuchElementException.class, () -> x.count(-1));
        Check.refused("5: above", NoSuchElementException.class, () -> x.count(15));
        Check.refused("5: least", NoSuchElementException.class, () -> x.count(Integer.MIN_VALUE));
        Check.refused("5: most", NoSuchElementException.class, () -> x.count(Integer.MAX_VALUE));
    }
}
