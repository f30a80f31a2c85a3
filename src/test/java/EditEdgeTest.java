/** Each sentence of the Terms, 2, on 'edit' and 'mark'. */
public final class EditEdgeTest {
    private static final String TERMS = "Terms 2";
    private static final String[] SIGNS = {"a", "b", "c", "d", "e", "f"};

    public static void main(String[] args) {
        fill();
        digits();
        signs();
        wrongHalves();
        outside();
        laidBytes();
        seen();
        otherBytes();
        lookedAt();
        conditions();
        marks();
        blamed();
        Edge.end("EditEdgeTest");
    }

    /** A whole pattern at PLACE 0, what it takes its digits from right behind it. */
    private static NibbleEngine edited(String pattern, String source, String due, int cc) {
        int length = pattern.length() / 2;
        return Bench.does(pattern + source, "edit 0:" + length + " " + length, due + source, cc);
    }

    private static boolean isBelow(String sign) {
        return sign.equals("b") || sign.equals("d");
    }

    private static void fill() {
        Edge.says(TERMS, "'edit' A b: A is a pattern, from the left; FILL is its first byte as it was; SEEN is off at "
                + "first.");
        edited("40", "", "40", 0);
        edited("00", "", "00", 0);
        edited("ff", "", "ff", 0);
        edited("405c", "", "4040", 0);
        edited("5c40", "", "5c5c", 0);
        // the first byte is one of the pattern's, too
        edited("20", "05", "20", 0);
        edited("20", "50", "f5", 1);
        edited("2020", "05", "20f5", 1);
        edited("2020", "50", "f5f0", 1);
        edited("205c20", "50", "f55cf0", 1);
        edited("205c20", "05", "2020f5", 1);
        edited("21", "00", "21", 0);
        edited("2120", "00", "21f0", 0);
        edited("2120", "50", "f5f0", 1);
        edited("22", "", "22", 0);
        edited("2220", "05", "2222", 0);
        edited("2220", "50", "22f5", 1);
        NibbleEngine between = Check.told("at 9 #77402077;at 20 #50;edit 10:2 20;");
        between.steps(1);
        Edge.bytes("the bytes on both sides of A stay", "7740f577", between, 9);
        // so it is each time: neither SEEN nor a HALF nor a digit is left from the one before
        NibbleEngine x = Check.told("at 0 #4020;at 10 #402020;at 20 #405c;at 30 #1230;at 40 #05;edit 0:2 30;edit 10:3 40;edit 0:1 0;edit 20:2 0;");
        x.steps(1);
        Edge.bytes("the first one", "40f1", x, 0);
        x.steps(1);
        Edge.bytes("the second one begins with a left HALF, SEEN is off", "4040f5", x, 10);
        Edge.due("a digit was", 1, () -> x.count(3));
        x.steps(1);
        Edge.due("no digit is", 0, () -> x.count(3));
        x.steps(1);
        Edge.bytes("the fourth one: SEEN is off", "4040", x, 20);
    }

    private static void digits() {
        Edge.says(TERMS, "A byte 32 or 33 takes a digit: the left HALF of the byte at b, then its right HALF, then "
                + "those of the next byte, and so on");
        edited("40211f20235c", "05", "40401ff5235c", 1);
        edited("40201f21235c", "50", "40f51ff0235c", 1);
        edited("40202020202020", "123456", "40f1f2f3f4f5f6", 1);
        edited("402020", "12", "40f1f2", 1);
        edited("40204b204b20", "1234", "40f14bf24bf3", 1);
        edited("4021212121", "1234", "40f1f2f3f4", 1);
        edited("4020", "1f", "40f1", 2);
        String pattern = "40" + Bench.times("20", 63);
        StringBuilder due = new StringBuilder("40");
        for (int i = 0; i < 63; i++) {
            due.append("f").append(i % 2 == 0 ? "1" : "2");
        }
        edited(pattern, Bench.times("12", 32), due.toString(), 1);
        edited("20" + Bench.times("20", 63), Bench.times("12", 32), due.substring(2) + "f2", 1);
        // the byte behind the last digit isn't looked at
        edited("402020", "12ff", "40f1f2", 1);
        NibbleEngine last = Check.told("at 0 #402020;at 255 #12;edit 0:3 255;");
        last.steps(1);
        Edge.bytes("the last byte of the STORE", "40f1f2", last, 0);
        Edge.due("no FAULT by the last byte", 0, () -> last.count(6));
        NibbleEngine first = Check.told("at 10 #402020;at 0 #12;edit 10:3 0;");
        first.steps(1);
        Edge.bytes("the first byte of the STORE", "40f1f2", first, 10);
    }

    private static void signs() {
        Edge.says(TERMS, "but a right HALF that is a SIGN is passed over together with the left one ahead of it");
        for (int right = 0; right < 16; right++) {
            String half = Integer.toHexString(right);
            String second = right < 10 ? half : "7";
            edited("402020", "1" + half + "70", "40f1f" + second, 1);
        }
        edited("40202020", "1c2d3f", "40f1f2f3", 2);
        edited("40202020", "1c2d3b", "40f1f2f3", 1);
        edited("4020202020", "12345c", "40f1f2f3f4", 1);
    }

    private static void wrongHalves() {
        Edge.says(TERMS, "a left HALF that is none of 0 to 9 is a FAULT 4");
        for (int left = 0; left < 16; left++) {
            String half = Integer.toHexString(left);
            if (left < 10) {
                edited("4021", half + "0", left == 0 ? "4040" : "40f" + half, left == 0 ? 0 : 1);
            } else {
                Bench.fails("4021" + half + "0", "edit 0:2 2", 4, 1, 2, 1, 2, 0, left);
                Bench.fails("402020" + "1c" + half + "f", "mark 0:3 3", 4, 1, 4, 1, 4, 0, left);
                Bench.fails("40202020" + "12" + half + "9", "edit 0:4 4", 4, 1, 5, 1, 5, 0, left);
            }
        }
        Bench.fails("20" + "a1", "edit 0:1 1", 4, 1, 1, 1, 1, 0, 10);
        Bench.fails("2222" + "20" + "a1", "edit 0:3 3", 4, 1, 3, 1, 3, 0, 10);
        // all bytes of A are as they were, the first one and the 64th, too
        Bench.fails("2020" + "1cf1", "edit 0:2 2", 4, 1, 3, 1, 3, 0, 15);
        Bench.fails("205c20" + "1df1", "mark 0:3 3", 4, 1, 4, 1, 4, 0, 15);
        String most = Bench.times("20", 64);
        Bench.fails(most + Bench.times("12", 31) + "1ff1", "edit 0:64 64", 4, 1, 96, 1, 96, 0, 15);
        Bench.fails(Bench.times("20", 62) + "5c20" + Bench.times("12", 31) + "f1", "edit 0:64 64", 4, 1, 95, 1, 95, 0, 15);
    }

    private static void outside() {
        Edge.says(TERMS, "(of b; a byte that isn't in the STORE is a 1, of b; behind that of A's PLACE the first in "
                + "its course is told)");
        int[] wrong = {-1, 256, Bench.MOST, Bench.LEAST, -256};
        for (String word : new String[] {"edit", "mark"}) {
            for (int place : wrong) {
                NibbleEngine x = Check.told("at 0 #4020;" + word + " 0:2 0%2;");
                x.set(2, place);
                x.steps(1);
                Bench.blames(word + " from " + place, x, 1, 1, place, 1);
                Edge.bytes(word + " from " + place + ": nothing is done", "4020", x, 0);
                NibbleEngine none = Check.told("at 0 #405c;" + word + " 0:2 0%2;");
                none.set(2, place);
                none.steps(1);
                Edge.due(word + " without digits from " + place, 0, () -> none.count(6));
                Edge.bytes(word + " without digits is done from " + place, "4040", none, 0);
            }
            NibbleEngine beyond = Check.told("at 0 #40202020;at 255 #12;" + word + " 0:4 255;");
            beyond.steps(1);
            Bench.blames("behind PLACE 255", beyond, 1, 1, 256, 1);
            Edge.bytes("behind PLACE 255: nothing is done", "40202020", beyond, 0);
            NibbleEngine sign = Check.told("at 0 #402020;at 255 #1d;" + word + " 0:3 255;");
            sign.steps(1);
            Bench.blames("behind the SIGN at PLACE 255", sign, 1, 1, 256, 1);
            NibbleEngine half = Check.told("at 0 #4020202020;at 254 #1dac;" + word + " 0:5 254;");
            half.steps(1);
            Bench.blames("a HALF ahead of PLACE 256", half, 4, 1, 255, 1, 255, 0, 10);
            Bench.fails("40", word + " 255:2 255%1", 1, 0, 255, 2);
            NibbleEngine both = Check.told(word + " 255%2:2 0%2;");
            both.set(2, 300);
            both.steps(1);
            Bench.blames("A's PLACE is ahead", both, 1, 0, 555, 2);
        }
    }

    private static void laidBytes() {
        Edge.says(TERMS, "The byte is FILL, if the digit is 0 and SEEN is off, else F and the digit.");
        edited("402020", "00", "404040", 0);
        edited("402020", "01", "4040f1", 1);
        edited("402020", "10", "40f1f0", 1);
        edited("402020", "90", "40f9f0", 1);
        edited("402120", "00", "4040f0", 0);
        edited("ff2020", "01", "fffff1", 1);
        edited("002020", "09", "0000f9", 1);
    }

    private static void seen() {
        Edge.says(TERMS, "SEEN is on behind it, if the digit isn't 0, or the byte was 33, or it was on; but if a SIGN "
                + "above 0 was passed over with this digit, it is off.");
        for (String sign : SIGNS) {
            boolean below = isBelow(sign);
            String stays = below ? "5c" : "40";
            edited("40205c", "5" + sign, "40f5" + stays, below ? 1 : 2);
            edited("40205c", "0" + sign, "404040", 0);
            edited("40215c", "0" + sign, "4040" + stays, 0);
            edited("40215c", "5" + sign, "40f5" + stays, below ? 1 : 2);
            edited("4020205c", "5d0" + sign, "40f5f0" + stays, below ? 1 : 2);
            edited("4020205c", "5" + sign + "00", below ? "40f5f05c" : "40f54040", below ? 1 : 2);
            edited("4020205c", "5" + sign + "70", "40f5f75c", 1);
        }
        edited("40205c", "00", "404040", 0);
        edited("40205c", "10", "40f15c", 1);
        edited("40215c", "00", "40405c", 0);
        edited("4021205c", "00", "4040f05c", 0);
    }

    private static void otherBytes() {
        Edge.says(TERMS, "A byte 34 is FILL then, SEEN is off. Any other one stays, if SEEN is on, else it is FILL.");
        edited("402022", "10", "40f140", 0);
        edited("4020225c", "10", "40f14040", 0);
        edited("4020225c205c", "12", "40f14040f25c", 1);
        edited("4022", "", "4040", 0);
        edited("4021225c20", "00", "4040404040", 0);
        for (int other : new int[] {0, 1, 31, 35, 64, 127, 128, 255}) {
            String stands = String.format("%02x", other);
            edited("4020" + stands, "10", "40f1" + stands, 1);
            edited("4020" + stands, "00", "404040", 0);
        }
    }

    private static void lookedAt() {
        Edge.says(TERMS, "A byte at b is looked at as it is when its left HALF is taken.");
        // the pattern's own byte, whose right HALF is taken behind its being laid
        Bench.does("4020204b", "edit 0:4 1", "40f2f04b", 1);
        Bench.does("40202012", "edit 0:4 3", "40f1f212", 1);
        Bench.fails("40202020", "edit 0:4 1", 4, 1, 2, 1, 2, 0, 15);
        Bench.does("214020", "edit 0:3 1", "f440f0", 1);
        // a byte that became FILL ahead of its being looked at
        Bench.does("125c2020", "edit 0:4 1", "1212f1f2", 1);
    }

    private static void conditions() {
        Edge.says(TERMS, "CC: of the digits behind the last 34 (all without): 0 if none isn't 0, else 1 if SEEN is on "
                + "at the end, 2 if not.");
        edited("405c", "", "4040", 0);
        edited("402020", "00", "404040", 0);
        edited("402121", "00", "4040f0", 0);
        edited("402020", "10", "40f1f0", 1);
        edited("402020", "01", "4040f1", 1);
        edited("402020", "1d2d", "40f1f2", 1);
        edited("402020", "1d2c", "40f1f2", 2);
        edited("402020", "1d0c", "40f1f0", 2);
        edited("402020", "1c0d", "40f140", 2);
        edited("402021", "1c0d", "40f140", 1);
        edited("40202220", "10", "40f14040", 0);
        edited("40202221", "10", "40f14040", 0);
        edited("40202220", "01", "404040f1", 1);
        edited("40202220", "12", "40f140f2", 1);
        edited("40202220", "1d2c", "40f140f2", 2);
        edited("402022202220", "1230", "40f140f240f3", 1);
        edited("402022202220", "1200", "40f140f24040", 0);
        edited("402022", "10", "40f140", 0);
        edited("22", "", "22", 0);
    }

    private static void marked(String pattern, String source, int due) {
        int length = pattern.length() / 2;
        String text = "at 9 #" + pattern + source + ";load %1 77;mark 9:" + length + " " + (9 + length) + ";halt;";
        NibbleEngine x = Check.told(text);
        x.steps(2);
        Edge.due("mark " + pattern + " " + source, due, () -> x.register(1));
        NibbleEngine y = Check.told(text.replace("mark", "edit"));
        y.steps(2);
        Edge.due("'edit' leaves it, " + pattern, 77, () -> y.register(1));
        Edge.due("as 'edit', " + pattern + ": CC", y.count(3), () -> x.count(3));
        Edge.bytes("as 'edit', " + pattern, Check.bytes(y, 9, length), x, 9);
    }

    private static void marks() {
        Edge.says(TERMS, "'mark': so, too; and each time that a digit that isn't 0 comes while SEEN is off, REGISTER 1 "
                + "is the PLACE of its byte in A.");
        marked("20", "10", 9);
        marked("20", "00", 77);
        marked("402020", "10", 10);
        marked("402020", "01", 11);
        marked("402020", "00", 77);
        marked("402020", "12", 10);
        marked("402120", "01", 77);
        marked("402120", "10", 10);
        marked("402120", "12", 10);
        marked("40202220", "12", 12);
        marked("40202220", "10", 10);
        marked("40202020", "1c02", 12);
        marked("402020", "1d20", 10);
        marked("4020", "5c", 10);
        marked("402020", "1cf1", 77);
        NibbleEngine zero = Check.told("at 0 #20;at 9 #10;load %1 77;mark 0:1 9;");
        zero.steps(2);
        Edge.due("PLACE 0", 0, () -> zero.register(1));
        NibbleEngine last = Check.told("at 255 #20;at 9 #10;mark 255:1 9;");
        last.steps(1);
        Edge.due("PLACE 255", 255, () -> last.register(1));
        NibbleEngine own = Check.told("at 0 #4020;at 9 #10;load %1 4;mark 0:2 5%1;");
        own.steps(2);
        Edge.due("b by REGISTER 1 as it was", 1, () -> own.register(1));
        NibbleEngine others = Check.told("at 0 #4020;at 9 #10;mark 0:2 9;");
        others.steps(1);
        Edge.due("REGISTER 0 stays", 0, () -> others.register(0));
        Edge.due("REGISTER 2 stays", 0, () -> others.register(2));
    }

    private static void blamed() {
        Edge.says(TERMS, "(of 'edit', 'mark' b has LENGTH 1, and is where the byte is that is looked at; by 2, 3 the "
                + "operand is the second one, by 5, 6, 7, 8 the first one)");
        Bench.fails("4020202020" + "12a4", "edit 0:5 5", 4, 1, 6, 1, 6, 0, 10);
        NibbleEngine x = Check.told("at 0 #402020202020;at 254 #1234;mark 0:6 254;");
        x.steps(1);
        Bench.blames("behind PLACE 255", x, 1, 1, 256, 1);
        Bench.fails("40", "edit 200:57 0", 1, 0, 200, 57);
    }
}
