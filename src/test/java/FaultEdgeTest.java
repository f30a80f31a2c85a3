/** Each sentence of the Terms, 2, that names an edge of FIELDS, STEPS and their FAULTS. */
public final class FaultEdgeTest {
    private static final String TERMS = "Terms 2";
    private static final String[] SIGNS = {"a", "b", "c", "d", "e", "f"};

    public static void main(String[] args) {
        halves();
        packedHalves();
        zonedHalves();
        numbers();
        laidSigns();
        addresses();
        stepsOn();
        halted();
        failed();
        time();
        outside();
        outsideTwice();
        order();
        blamedOperand();
        firstHalf();
        guarded();
        overflowGuarded();
        why();
        Edge.end("FaultEdgeTest");
    }

    private static boolean isBelow(String sign) {
        return sign.equals("b") || sign.equals("d");
    }

    private static void halves() {
        Edge.says(TERMS, "A byte has two HALVES, left (0) and right (1), of 0 to 15, told here also as A to F.");
        NibbleEngine x = Check.told("at 0 #0ff0a99a;copy 10:4 0;");
        Edge.bytes("0, 9, 10 and 15", "0ff0a99a", x, 0);
        Edge.due("left is 0", 2, () -> x.flaws(1, 1, false, 0));
        Edge.due("right is 1", 3, () -> x.flaws(1, 1, false, 1));
        Edge.due("of 9a as ZONED both, the left one ahead", 6, () -> x.flaws(3, 1, true, 0));
        Edge.due("and the right one", 7, () -> x.flaws(3, 1, true, 1));
    }

    private static void packedHalves() {
        Edge.says(TERMS, "A FIELD of LENGTH n at a PLACE: n bytes from there on.");
        NibbleEngine x = Check.told("at 0 #12345c;at 254 #123c;");
        Edge.due("of 1", 5, () -> x.number(2, 1, false));
        Edge.due("of 2", 345, () -> x.number(1, 2, false));
        Edge.due("of 3", 12345, () -> x.number(0, 3, false));
        Edge.due("at the end", 123, () -> x.number(254, 2, false));
        String[] operations = {"pack @ 20:2", "unpack @ 20:2", "offset @ 20:2", "move @ 20:2", "add @ 20:2", "sub @ 20:2", "mul @ 21:1",
            "div @ 21:1", "copy @ 20", "digits @ 20", "zones @ 20", "edit @ 20", "mark @ 20", "shift @ 1 0", "shift @ -1 9"};
        for (String one : operations) {
            NibbleEngine y = Check.told("at 20 #001c;at 9 #77005c77;" + one.replace("@", "10:2") + ";");
            y.steps(1);
            Edge.due(one + " has no FAULT", 0, () -> y.count(6));
            Edge.due(one + ": the byte ahead of A", 0x77, () -> y.at(9));
            Edge.due(one + ": the byte behind A", 0x77, () -> y.at(12));
            Edge.bytes(one + ": B", "00001c00", y, 19);
        }
        NibbleEngine dec = Check.told("at 9 #77;at 18 #77;dec %1 10;");
        dec.steps(1);
        Edge.bytes("'dec'", "77000000000000000c77", dec, 9);

        Edge.says(TERMS, "PACKED: its HALVES are digits (0 to 9), but the last one is a SIGN (A to F: B, D below 0, "
                + "others above).");
        for (int held = 0; held < 16; held++) {
            String half = Integer.toHexString(held);
            boolean digit = held < 10;
            NibbleEngine y = Check.told("at 0 #" + half + "c;at 2 #1" + half + ";at 4 #1" + half + "3c;");
            Edge.due(half + " as a digit", digit ? 0 : 1, () -> y.flaws(0, 1, false, -1));
            Edge.due(half + " as the SIGN", digit ? 1 : 0, () -> y.flaws(2, 1, false, -1));
            Edge.due(half + " to the right, but not the last", digit ? 0 : 1, () -> y.flaws(4, 2, false, -1));
            if (digit) {
                Edge.none(half + " is no SIGN", () -> y.number(2, 1, false));
                Edge.due(half + " is a digit", held, () -> y.number(0, 1, false));
            } else {
                Edge.due(half + " is a SIGN", isBelow(half) ? -1 : 1, () -> y.number(2, 1, false));
                Edge.none(half + " is no digit", () -> y.number(0, 1, false));
            }
        }
    }

    private static void zonedHalves() {
        Edge.says(TERMS, "ZONED: of each byte the right HALF is a digit, the left one is F, of the last byte a SIGN.");
        for (int held = 0; held < 16; held++) {
            String half = Integer.toHexString(held);
            NibbleEngine x = Check.told("at 0 #" + half + "1c2;at 2 #f" + half + "c2;at 4 #" + half + "1;at 5 #c" + half + ";");
            Edge.due(half + " to the left", held == 15 ? 0 : 1, () -> x.flaws(0, 2, true, -1));
            Edge.due(half + " to the right", held < 10 ? 0 : 1, () -> x.flaws(2, 2, true, -1));
            Edge.due(half + " as the SIGN", held < 10 ? 1 : 0, () -> x.flaws(4, 1, true, -1));
            Edge.due(half + " to the right of the SIGN", held < 10 ? 0 : 1, () -> x.flaws(5, 1, true, -1));
            if (held > 9) {
                Edge.due(half + " is a SIGN", isBelow(half) ? -1 : 1, () -> x.number(4, 1, true));
            }
        }
    }

    private static void numbers() {
        Edge.says(TERMS, "Its NUMBER: the digits, from the left, by the SIGN (no digits but 0: it is 0, whatever the "
                + "SIGN).");
        for (String sign : SIGNS) {
            int by = isBelow(sign) ? -1 : 1;
            NibbleEngine x = Check.told("at 0 #0" + sign + ";at 1 #000" + sign + ";at 3 #100" + sign + ";at 5 #" + sign
                    + "0;at 6 #f0f0" + sign + "0;at 9 #f1" + sign + "0;at 11 #001" + sign + ";");
            Edge.due("0" + sign, 0, () -> x.number(0, 1, false));
            Edge.due("000" + sign, 0, () -> x.number(1, 2, false));
            Edge.due(sign + "0 as ZONED", 0, () -> x.number(5, 1, true));
            Edge.due("f0f0" + sign + "0 as ZONED", 0, () -> x.number(6, 3, true));
            Edge.due("100" + sign, by * 100, () -> x.number(3, 2, false));
            Edge.due("f1" + sign + "0 as ZONED", by * 10, () -> x.number(9, 2, true));
            Edge.due("001" + sign, by, () -> x.number(11, 2, false));
            Bench.does("ff0" + sign, "move 0:1 1:1", "0c0" + sign, 0);
            Bench.does("0" + sign + "0c", "compare 0:1 1:1", "0" + sign + "0c", 0);
        }
    }

    private static void laidSigns() {
        Edge.says(TERMS, "What is laid as a NUMBER has SIGN C (0 or more), D (below 0).");
        for (String sign : SIGNS) {
            boolean below = isBelow(sign);
            Bench.does("ff1" + sign, "move 0:1 1:1", "1" + (below ? "d" : "c") + "1" + sign, below ? 1 : 2);
            Bench.does("0" + sign + "0" + sign, "add 0:1 1:1", "0c0" + sign, 0);
        }
        Bench.does("1c1c", "sub 0:1 1:1", "0c1c", 0);
        Bench.does("1d1c", "add 0:1 1:1", "0c1c", 0);
        Bench.does("1d2c", "add 0:1 1:1", "1c2c", 2);
        Bench.does("1c2c", "sub 0:1 1:1", "1d2c", 1);
        for (int number : new int[] {0, 1, -1, Bench.MOST, Bench.LEAST}) {
            NibbleEngine x = Check.told("dec %1 0;");
            x.set(1, number);
            x.steps(1);
            Edge.due("the SIGN of " + number, number < 0 ? 13 : 12, () -> x.at(7) & 15);
            Edge.due("the NUMBER " + number, number, () -> x.number(0, 8, false));
        }
    }

    private static void addresses() {
        Edge.says(TERMS, "An ADDRESS is its PLACE, more by what its REGISTER holds, if it has one (an int that wraps).");
        int[][] cases = {{0, 0}, {255, 0}, {255, -255}, {0, 255}, {1, 254}, {255, -1}, {254, 1}, {128, 127}, {0, -1},
            {255, -256}, {255, 1}, {0, 256}, {1, 255}, {0, Bench.MOST}, {1, Bench.MOST}, {255, Bench.MOST},
            {0, Bench.LEAST}, {255, Bench.LEAST}};
        for (int[] one : cases) {
            NibbleEngine x = Check.told("load %2 " + one[0] + "%1;test " + one[0] + "%1:1;");
            x.set(1, one[1]);
            x.steps(2);
            int address = one[0] + one[1];
            boolean inside = address >= 0 && address <= 255;
            String what = one[0] + " more by " + one[1];
            Edge.due(what, address, () -> x.register(2));
            Edge.due(what + ": a FAULT", inside ? 0 : 1, () -> x.count(6));
            if (!inside) {
                Edge.due(what + " in WHY", address, () -> x.why(1, 1));
            }
        }
        NibbleEngine none = Check.told("load %2 255;load %3 0%0;load %4 0%7;");
        none.set(0, 3);
        none.set(7, 4);
        none.steps(3);
        Edge.due("no REGISTER", 255, () -> none.register(2));
        Edge.due("REGISTER 0", 3, () -> none.register(3));
        Edge.due("REGISTER 7", 4, () -> none.register(4));
        NibbleEngine itself = Check.told("load %1 5%1;load %1 5%1;");
        itself.steps(2);
        Edge.due("its own REGISTER, as it was", 10, () -> itself.register(1));
    }

    private static void stepsOn() {
        Edge.says(TERMS, "A STEP, if it RUNS (state 0): the INSTRUCTION that is NEXT (0 first) is done, NEXT is the "
                + "one behind it, or as told");
        NibbleEngine x = Check.told("plus %1 1;plus %1 2;on 15 a;plus %1 4;a:plus %1 8;halt;");
        int[] next = {0, 1, 2, 4, 5, 6};
        int[] held = {0, 1, 3, 3, 11, 11};
        for (int i = 0; i < next.length; i++) {
            int many = i;
            Edge.due("NEXT behind " + i, next[i], () -> x.count(2));
            Edge.due("done behind " + i, held[many], () -> x.register(1));
            x.steps(1);
        }
    }

    private static void halted() {
        Edge.says(TERMS, "It is HALTED (1) behind 'halt', and where no INSTRUCTION is NEXT");
        NibbleEngine halt = Check.told("halt;halt;");
        Edge.due("ahead of it", 0, () -> halt.count(1));
        halt.steps(1);
        Edge.due("behind it", 1, () -> halt.count(1));
        Edge.due("NEXT is the one behind it", 1, () -> halt.count(2));
        NibbleEngine end = Check.told("plus %1 1;plus %1 1;");
        end.steps(1);
        Edge.due("at the last one", 0, () -> end.count(1));
        end.steps(1);
        Edge.due("behind the last one", 1, () -> end.count(1));
        Edge.due("NEXT is none", 2, () -> end.count(2));
        Edge.due("no INSTRUCTION at all", 1, () -> new NibbleEngine().count(1));
        NibbleEngine set = Check.told("back;back;");
        Edge.due("NEXT is SET to the last one", 0, () -> set.next(1));
        Edge.due("NEXT is SET behind it", 1, () -> set.next(2));
        NibbleEngine back = Check.told("on 15 a;g:back;a:guard 1 g;test 255:2;");
        back.steps(3);
        Edge.due("HALTED by a GUARD isn't so", 0, () -> back.count(1));
        back.steps(1);
        Edge.due("'back' behind the last one", 1, () -> back.count(1));
        Edge.due("to where none is", 4, () -> back.count(2));
    }

    private static void failed() {
        Edge.says(TERMS, "FAILED (2) behind a FAULT that isn't GUARDED: a STEP does nothing at all then.");
        NibbleEngine x = Check.told("plus %1 1;test 255:2;plus %1 2;");
        x.steps(2);
        Edge.due("FAILED", 2, () -> x.count(1));
        for (int steps = 0; steps < 3; steps++) {
            int many = steps;
            Edge.due("NEXT stays behind " + many, 1, () -> x.where(many, 0));
            Edge.due("the state stays behind " + many, 2, () -> x.where(many, 2));
            Edge.due("FAULTS stay behind " + many, 1, () -> x.where(many, 3));
            Edge.due("REGISTERS stay behind " + many, 1, () -> x.holds(many, 1));
        }
        Edge.due("no STEPS go by", -1, () -> x.steps(1));
        Edge.due("no TIME", 2, () -> x.count(0));
        Edge.due("no DONE", 1, () -> x.done(1));
        Edge.due("no TRACE", 2, () -> x.count(8));
        NibbleEngine last = Check.told("test 255:2;");
        last.steps(1);
        Edge.due("a FAULT of the last INSTRUCTION isn't its end", 2, () -> last.count(1));
        NibbleEngine kept = Check.told("guard 1 g;test 255:2;g:back;");
        kept.steps(2);
        Edge.due("GUARDED, it RUNS", 0, () -> kept.count(1));
        NibbleEngine other = Check.told("guard 2 g;test 255:2;g:back;");
        other.steps(2);
        Edge.due("another kind is GUARDED", 2, () -> other.count(1));
    }

    private static void time() {
        Edge.says(TERMS, "TIME is one more (by one with a FAULT, too)");
        NibbleEngine x = Check.told("guard 1 g;test 255:2;halt;g:plus %1 1;add 0:1 0:1;");
        for (int i = 0; i < 4; i++) {
            int due = i;
            Edge.due("behind " + i, due, () -> x.count(0));
            x.steps(1);
        }
        Edge.due("with a FAULT that isn't GUARDED", 4, () -> x.count(0));
        x.steps(1);
        Edge.due("no more behind it", 4, () -> x.count(0));
    }

    /** Every operand of every INSTRUCTION, at the edges of the STORE and a byte beyond them. */
    private static void outside() {
        Edge.says(TERMS, "1 PLACE: an operand (the first one first) has a byte that isn't in the STORE");
        for (String word : new String[] {"pack", "unpack", "offset", "move", "add", "sub", "compare", "mul", "div"}) {
            room(word + " @:3 0:2", 3, 0);
            room(word + " 0:3 @:2", 2, 1);
            room(word + " 0:16 @:1", 1, 1);
            room(word + " @:16 0:1", 16, 0);
        }
        for (String word : new String[] {"copy", "digits", "zones"}) {
            room(word + " @:5 0", 5, 0);
            room(word + " 0:5 @", 5, 1);
            room(word + " @:64 0", 64, 0);
            room(word + " 0:64 @", 64, 1);
        }
        room("edit @:64 0", 64, 0);
        room("mark @:1 0", 1, 0);
        room("shift @:16 0 0", 16, 0);
        room("test @:1", 1, 0);
        room("test @:16", 16, 0);
        room("bin %7 @", 8, 0);
        room("dec %7 @", 8, 0);
    }

    /** An operand at @ of so many bytes, moved about by REGISTER 1. */
    private static void room(String operation, int length, int operand) {
        int place = 255 - length;
        String one = operation.replace("@", place + "%1");
        int[] moved = {Bench.LEAST, -place - 1, -place, 1, 2, Bench.MOST};
        for (int number : moved) {
            NibbleEngine x = Check.told("at 0 #" + Bench.times("0c", 256) + ";" + one + ";");
            x.set(1, number);
            x.steps(1);
            int address = place + number;
            if (address == 0 || address == 256 - length) {
                Edge.due(one + " at " + address + " is in the STORE", 0, () -> x.count(6) > 0 && x.why(0, 0) == 1 ? 1 : 0);
            } else {
                Bench.blames(one + " at " + address, x, 1, operand, address, length);
                Edge.due(one + " at " + address + ": nothing is done", 0, () -> x.count(3));
            }
        }
    }

    private static void outsideTwice() {
        Edge.says(TERMS, "an operand (the first one first)");
        Bench.fails("1c", "add 255:2 255:3", 1, 0, 255, 2);
        Bench.fails("1c", "add 254:2 255:3", 1, 1, 255, 3);
        Bench.fails("1c", "copy 255:2 255", 1, 0, 255, 2);
        Bench.fails("1c", "copy 254:2 255", 1, 1, 255, 2);
        NibbleEngine load = Check.told("load %1 255%1;load %1 255%1;");
        load.steps(2);
        Edge.due("'load' has no operand", 510, () -> load.register(1));
    }

    /** Of two kinds at once the first in the order is told. */
    private static void order() {
        Edge.says(TERMS, "FAULTS of a STEP, the first in this order");
        // 1 ahead of 2, 3, 4
        Bench.fails("0000", "mul 0:2 254:3", 1, 1, 254, 3);
        Bench.fails("0000", "mul 255:2 0:2", 1, 0, 255, 2);
        // 2 ahead of 3, 4, 7
        Bench.fails("0000", "mul 0:2 1:2", 2, 1, 1, 2);
        Bench.fails("1111", "div 0:2 0:2", 2, 1, 0, 2);
        Bench.fails("1c0c", "div 0:1 1:1", 2, 1, 1, 1);
        // 3 ahead of 4, 5, 7
        Bench.fails("000000", "add 0:2 1:2", 3, 1, 1, 2);
        Bench.fails("000000", "mul 0:3 1:1", 3, 1, 1, 1);
        Bench.fails("1c000c", "mul 0:3 0:1", 3, 1, 0, 1);
        Bench.fails("0c000c", "div 0:3 0:1", 3, 1, 0, 1);
        Bench.fails("0000", "move 0:1 0:2", 3, 1, 0, 2);
        // 4 ahead of 5, 7, 8
        Bench.fails("11000c11", "mul 0:3 3:1", 4, 1, 3, 1, 3, 1, 1);
        Bench.fails("11000cfc", "mul 0:3 3:1", 4, 1, 3, 1, 3, 0, 15);
        Bench.fails("110cfc1c", "mul 0:3 3:1", 4, 0, 0, 3, 1, 1, 12);
        Bench.fails("00f00c0c", "div 0:3 3:1", 4, 0, 0, 3, 1, 0, 15);
        Bench.fails("99999999999999fc", "bin %1 0", 4, 0, 0, 8, 7, 0, 15);
    }

    private static void blamedOperand() {
        Edge.says(TERMS, "by 2, 3 the operand is the second one, by 5, 6, 7, 8 the first one");
        Bench.fails("0c1c", "mul 0:1 1:1", 2, 1, 1, 1);
        Bench.fails("0c0c1c", "sub 0:2 1:2", 3, 1, 1, 2);
        Bench.fails("10000c1c", "mul 0:3 3:1", 5, 0, 0, 3, 0, 0, 1);
        Bench.fails("01000c1c", "div 0:3 3:1", 7, 0, 0, 3);
        Bench.fails("000002147483648c", "bin %1 0", 8, 0, 0, 8);
        NibbleEngine x = Check.told("at 0 #9c005c;guard 6 g;add 0:1 1:2;g:halt;");
        x.steps(2);
        Bench.blames("OVERFLOW", x, 6, 0, 0, 1);
    }

    private static void firstHalf() {
        Edge.says(TERMS, "4 HALF: of a FIELD that must be PACKED a digit or the SIGN is none (of the first operand the "
                + "first one from the left, then of the second one)");
        for (String word : new String[] {"add", "sub", "compare"}) {
            String fields = word + " 0:2 2:2";
            Bench.fails("a0b0" + "f000", fields, 4, 0, 0, 2, 0, 0, 10);
            Bench.fails("0ab0" + "f000", fields, 4, 0, 0, 2, 0, 1, 10);
            Bench.fails("00b0" + "f000", fields, 4, 0, 0, 2, 1, 0, 11);
            Bench.fails("0009" + "f000", fields, 4, 0, 0, 2, 1, 1, 9);
            Bench.fails("000a" + "f000", fields, 4, 1, 2, 2, 2, 0, 15);
            Bench.fails("000f" + "0e00", fields, 4, 1, 2, 2, 2, 1, 14);
            Bench.fails("999f" + "00a0", fields, 4, 1, 2, 2, 3, 0, 10);
            Bench.fails("999f" + "0000", fields, 4, 1, 2, 2, 3, 1, 0);
        }
        for (String word : new String[] {"mul", "div"}) {
            String fields = word + " 0:2 2:1";
            Bench.fails("a00c" + "f0", fields, 4, 0, 0, 2, 0, 0, 10);
            Bench.fails("0009" + "f0", fields, 4, 0, 0, 2, 1, 1, 9);
            Bench.fails("000a" + "f0", fields, 4, 1, 2, 1, 2, 0, 15);
            Bench.fails("000a" + "90", fields, 4, 1, 2, 1, 2, 1, 0);
        }
        Bench.fails("ffff" + "00a0", "move 0:2 2:2", 4, 1, 2, 2, 3, 0, 10);
        Bench.fails("ffff" + "0009", "move 0:2 2:2", 4, 1, 2, 2, 3, 1, 9);
        Bench.fails("0a0c", "shift 0:2 0 0", 4, 0, 0, 2, 0, 1, 10);
        Bench.fails("0000", "shift 0:2 -1 0", 4, 0, 0, 2, 1, 1, 0);
        Bench.fails("00000000000000a0", "bin %1 0", 4, 0, 0, 8, 7, 0, 10);
        Bench.fails("0000000000000000", "bin %1 0", 4, 0, 0, 8, 7, 1, 0);
    }

    private static void guarded() {
        Edge.says(TERMS, "By one of these nothing is done, NEXT stays; but if its kind is GUARDED, NEXT is the "
                + "GUARD's, and OLD is the INSTRUCTION that had it.");
        int[][] why = {{1, 0, 255, 2}, {2, 1, 1, 1}, {3, 1, 1, 2}, {4, 0, 20, 1, 20, 1, 0}, {5, 0, 2, 3, 2, 0, 1},
            {7, 0, 2, 3}, {8, 0, 8, 8}};
        String[] operations = {"test 255:2", "mul 0:1 1:1", "add 0:2 1:2", "add 20:1 0:1", "mul 2:3 0:1", "div 2:3 6:1",
            "bin %1 8"};
        String laid = "9c1c10000c000c00" + "000002147483648c";
        for (int i = 0; i < why.length; i++) {
            int kind = why[i][0];
            Bench.fails(laid, operations[i], why[i]);
            String what = "kind " + kind;
            NibbleEngine x = Check.told("at 0 #" + laid + ";at 220 #a2;test 220:1;guard " + kind + " g;" + operations[i]
                    + ";halt;g:plus %2 1;");
            x.steps(2);
            Edge.due(what + ": no OLD ahead", -1, () -> x.count(4));
            x.steps(1);
            Bench.blames(what, x, why[i]);
            Edge.bytes(what + ": nothing is done", laid, x, 0);
            Edge.due(what + ": CC stays", 3, () -> x.count(3));
            Edge.due(what + ": REGISTERS stay", 0, () -> x.register(1));
            Edge.due(what + ": NEXT", 4, () -> x.count(2));
            Edge.due(what + ": OLD", 2, () -> x.count(4));
            Edge.due(what + ": it RUNS", 0, () -> x.count(1));
            NibbleEngine loose = Check.told("at 0 #" + laid + ";guard " + kind + " g;guard " + kind + ";" + operations[i]
                    + ";halt;g:plus %2 1;");
            loose.steps(50);
            Edge.due(what + ", not GUARDED any more", 2, () -> loose.count(1));
            Edge.due(what + ", not GUARDED: NEXT stays", 2, () -> loose.count(2));
            Edge.due(what + ", not GUARDED: no OLD", -1, () -> loose.count(4));
        }
        NibbleEngine old = Check.told("guard 1 g;test 255:2;g:guard 1;test 255:2;");
        old.steps(50);
        Edge.due("a FAULT that isn't GUARDED leaves OLD", 1, () -> old.count(4));
        NibbleEngine zero = Check.told("on 15 a;g:halt;b:test 255:2;a:guard 1 g;on 15 b;");
        zero.steps(50);
        Edge.due("OLD is told by its number", 2, () -> zero.count(4));
    }

    private static void overflowGuarded() {
        Edge.says(TERMS, "6 OVERFLOW is a FAULT only if it is GUARDED: all is done then, NEXT and OLD are so, too.");
        String[] operations = {"add 0:1 1:1", "sub 0:1 2:1", "move 0:1 3:2", "shift 0:1 1 0"};
        String[] behind = {"8c", "8c", "2c", "0c"};
        for (int i = 0; i < operations.length; i++) {
            String what = operations[i];
            String text = "at 0 #9c9c9d012c;guard 6 g;" + what + ";halt;g:plus %2 1;halt;";
            NibbleEngine x = Check.told(text);
            x.steps(2);
            Bench.blames(what, x, 6, 0, 0, 1);
            Edge.bytes(what + " is done", behind[i], x, 0);
            Edge.due(what + ": CC", 3, () -> x.count(3));
            Edge.due(what + ": NEXT", 3, () -> x.count(2));
            Edge.due(what + ": OLD", 1, () -> x.count(4));
            Edge.due(what + ": it RUNS", 0, () -> x.count(1));
            NibbleEngine loose = Check.told(text.replace("guard 6", "guard 5"));
            loose.steps(2);
            Edge.due(what + " isn't GUARDED: no FAULT", 0, () -> loose.count(6));
            Edge.none(what + " isn't GUARDED: no WHY", () -> loose.why(0, 0));
            Edge.bytes(what + " isn't GUARDED, and is done", behind[i], loose, 0);
            Edge.due(what + " isn't GUARDED: CC", 3, () -> loose.count(3));
            Edge.due(what + " isn't GUARDED: NEXT", 2, () -> loose.count(2));
            Edge.due(what + " isn't GUARDED: no OLD", -1, () -> loose.count(4));
            Edge.due(what + " isn't GUARDED: it RUNS", 0, () -> loose.count(1));
        }
        NibbleEngine fits = Check.told("at 0 #8c1c;guard 6 g;add 0:1 1:1;halt;g:halt;");
        fits.steps(2);
        Edge.due("what has room is none", 0, () -> fits.count(6));
    }

    private static void why() {
        Edge.says(TERMS, "WHY, the latest FAULT of a STEP: its kind, INSTRUCTION, TIME ahead of it; its cause, the "
                + "operand: which one (0, 1), its ADDRESS, LENGTH");
        NibbleEngine x = Check.told("test 0:1;guard 1 g;test 255:2;halt;g:guard 4 h;plus %1 1;add 0:1 0%1:1;h:plus %1 1;"
                + "test 254%1:9;");
        x.steps(2);
        Edge.none("none yet", () -> x.why(0, 0));
        x.steps(1);
        int[][] due = {{1, 2, 2, 0, 255, 2}, {4, 6, 5, 0, 0, 1, 0, 1, 0}, {1, 8, 7, 0, 256, 9}};
        for (int i = 0; i < due.length; i++) {
            for (int j = 0; j < due[i].length; j++) {
                int level = j / 3;
                int what = j % 3;
                Edge.due("the FAULT " + i + ", " + level + " " + what, due[i][j], () -> x.why(level, what));
            }
            if (due[i].length < 9) {
                Edge.none("the FAULT " + i + " has no HALF", () -> x.why(2, 0));
            }
            x.steps(i == 0 ? 3 : 2);
        }

        Edge.says(TERMS, "the cause of that, by 4, 5: the HALF: its PLACE, which, what it held when it was looked at.");
        Bench.fails("0a0c", "shift 0:2 0 0", 4, 0, 0, 2, 0, 1, 10);
        Bench.fails("00300c1c", "mul 1:2 3:1", 5, 0, 1, 2, 1, 0, 3);
        Bench.fails("00030c1c", "mul 1:2 3:1", 5, 0, 1, 2, 1, 1, 3);
    }
}
