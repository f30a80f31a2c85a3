/** Each sentence of the Terms, 2, on what reckons with NUMBERS: what has room, what doesn't, SIGNS, CC. */
public final class NumberEdgeTest {
    private static final String TERMS = "Terms 2";
    private static final String NINES = Bench.times("9", 31);
    private static final String[] SIGNS = {"a", "b", "c", "d", "e", "f"};

    public static void main(String[] args) {
        moves();
        sums();
        cuts();
        conditions();
        compares();
        overlaps();
        moveOverlaps();
        wrongLengths();
        zeros();
        products();
        quotients();
        noQuotient();
        keepsCondition();
        shiftsLeft();
        shiftsRight();
        shiftSigns();
        Edge.end("NumberEdgeTest");
    }

    private static boolean isBelow(String sign) {
        return sign.equals("b") || sign.equals("d");
    }

    private static void moves() {
        Edge.says(TERMS, "'move' A B: A is the NUMBER of B (A itself need not be PACKED).");
        Bench.does("ffff" + "5c", "move 0:2 2:1", "005c" + "5c", 2);
        Bench.does("aaaa" + "5d", "move 0:2 2:1", "005d" + "5d", 1);
        Bench.does("0000" + "0b", "move 0:2 2:1", "000c" + "0b", 0);
        Bench.does(Bench.times("f", 32) + NINES + "d", "move 0:16 16:16", NINES + "d" + NINES + "d", 1);
        Bench.does(Bench.times("f", 32) + "9f", "move 0:16 16:1", Bench.wide("9c", 16) + "9f", 2);
    }

    private static void sums() {
        Edge.says(TERMS, "'add', 'sub': A is the NUMBER of A and, less, that of B.");
        String[] numbers = {"499d", "100d", "001d", "000c", "001c", "099c", "499c"};
        for (String one : numbers) {
            for (String two : numbers) {
                NibbleEngine x = Check.told("at 0 #" + one + two + one + ";add 0:2 2:2;sub 4:2 2:2;");
                long first = x.number(0, 2, false);
                long second = x.number(2, 2, false);
                x.steps(2);
                Edge.due(one + " and " + two, first + second, () -> x.number(0, 2, false));
                Edge.due(one + " less " + two, first - second, () -> x.number(4, 2, false));
                Edge.due("B stays", second, () -> x.number(2, 2, false));
            }
        }
    }

    private static void cuts() {
        Edge.says(TERMS, "What has no room in A (twice its LENGTH less 1 digits) is cut at the left: OVERFLOW; the "
                + "SIGN is that of the whole one then, even if 0 is left.");
        Bench.does("ff" + "009c", "move 0:1 1:2", "9c" + "009c", 2);
        Bench.does("ff" + "010c", "move 0:1 1:2", "0c" + "010c", 3);
        Bench.does("ff" + "019c", "move 0:1 1:2", "9c" + "019c", 3);
        Bench.does("ff" + "010d", "move 0:1 1:2", "0d" + "010d", 3);
        Bench.does("ff" + "010b", "move 0:1 1:2", "0d" + "010b", 3);
        Bench.does("ff" + "000d", "move 0:1 1:2", "0c" + "000d", 0);
        Bench.does("8c1c", "add 0:1 1:1", "9c1c", 2);
        Bench.does("9c1c", "add 0:1 1:1", "0c1c", 3);
        Bench.does("9d1d", "add 0:1 1:1", "0d1d", 3);
        Bench.does("8d1c", "sub 0:1 1:1", "9d1c", 1);
        Bench.does("9d1c", "sub 0:1 1:1", "0d1c", 3);
        Bench.does("998c001c", "add 0:2 2:2", "999c001c", 2);
        Bench.does("999c001c", "add 0:2 2:2", "000c001c", 3);
        Bench.does("999c002c", "add 0:2 2:2", "001c002c", 3);
        Bench.does("0c" + "009c", "add 0:1 1:2", "9c" + "009c", 2);
        Bench.does("0c" + "100c", "add 0:1 1:2", "0c" + "100c", 3);
        Bench.does("0c" + "100c", "sub 0:1 1:2", "0d" + "100c", 3);
        Bench.does("1c" + "010d", "add 0:1 1:2", "9d" + "010d", 1);
        Bench.does("0c" + "010d", "add 0:1 1:2", "0d" + "010d", 3);
        Bench.does(Bench.times("9", 30) + "8c" + "1c", "add 0:16 16:1", NINES + "c" + "1c", 2);
        Bench.does(NINES + "c" + "1c", "add 0:16 16:1", Bench.times("0", 31) + "c" + "1c", 3);
        Bench.does(NINES + "d" + "1d", "add 0:16 16:1", Bench.times("0", 31) + "d" + "1d", 3);
        Bench.does(NINES + "c" + NINES + "d", "sub 0:16 16:16", Bench.times("9", 30) + "8c" + NINES + "d", 3);
    }

    private static void conditions() {
        Edge.says(TERMS, "CC (by all three): 3 by OVERFLOW, else 0 if it is 0, 1 below, 2 above.");
        for (String word : new String[] {"move 0:1 1:1", "add 0:1 1:1", "sub 0:1 2:1"}) {
            Bench.does("0c" + "1c1d", word, "1c1c1d", 2);
            Bench.does("0c" + "1d1c", word, "1d1d1c", 1);
            Bench.does("0c" + "0d0d", word, "0c0d0d", 0);
            Bench.does("0d" + "0c0c", word, "0c0c0c", 0);
        }
        Bench.does("0c" + "010c", "move 0:1 1:2", "0c010c", 3);
        Bench.does("5c5c", "add 0:1 1:1", "0c5c", 3);
        Bench.does("5c5d", "sub 0:1 1:1", "0c5d", 3);
        Bench.does("5c5c", "sub 0:1 1:1", "0c5c", 0);
    }

    private static void compares() {
        Edge.says(TERMS, "'compare': CC 0 if alike, 1 if the NUMBER of A is less than that of B, 2 if more.");
        String[] numbers = {"999d", "998d", "001d", "000c", "001c", "998c", "999c"};
        for (int i = 0; i < numbers.length; i++) {
            for (int j = 0; j < numbers.length; j++) {
                int due = i == j ? 0 : i < j ? 1 : 2;
                Bench.does(numbers[i] + numbers[j], "compare 0:2 2:2", numbers[i] + numbers[j], due);
            }
        }
        Bench.does("0d" + "000c", "compare 0:1 1:2", "0d000c", 0);
        Bench.does("5a" + "005f", "compare 0:1 1:2", "5a005f", 0);
        Bench.does("9c" + "010c", "compare 0:1 1:2", "9c010c", 1);
        Bench.does("9d" + "010d", "compare 0:1 1:2", "9d010d", 2);
        String less = Bench.times("9", 30) + "8";
        Bench.does(NINES + "c" + less + "c", "compare 0:16 16:16", NINES + "c" + less + "c", 2);
        Bench.does(NINES + "d" + less + "d", "compare 0:16 16:16", NINES + "d" + less + "d", 1);
        Bench.does(NINES + "d" + NINES + "c", "compare 0:16 16:16", NINES + "d" + NINES + "c", 1);
        // both the same bytes, or some of them: that is no FAULT
        Bench.does("012c", "compare 0:2 0:2", "012c", 0);
        Bench.does("012c", "compare 1:1 0:2", "012c", 1);
        Bench.does("012c", "compare 0:2 1:1", "012c", 2);
    }

    private static void overlaps() {
        Edge.says(TERMS, "OVERLAP: in 'add', 'sub', 'mul', 'div' the two share a byte, but don't end at the same byte");
        String laid = "00000c00000c";
        for (String word : new String[] {"add", "sub"}) {
            Bench.fails(laid, word + " 0:3 1:3", 3, 1, 1, 3);
            Bench.fails(laid, word + " 1:3 0:3", 3, 1, 0, 3);
            Bench.fails(laid, word + " 0:3 2:4", 3, 1, 2, 4);
            Bench.fails(laid, word + " 2:4 0:3", 3, 1, 0, 3);
            Bench.fails(laid, word + " 0:6 0:3", 3, 1, 0, 3);
            Bench.fails(laid, word + " 0:3 0:6", 3, 1, 0, 6);
            Bench.fails(laid, word + " 0:6 4:1", 3, 1, 4, 1);
            Bench.does(laid, word + " 0:3 3:3", laid, 0);
            Bench.does(laid, word + " 3:3 0:3", laid, 0);
            Bench.does(laid, word + " 0:3 0:3", laid, 0);
            Bench.does(laid, word + " 3:3 4:2", laid, 0);
            Bench.does(laid, word + " 5:1 3:3", laid, 0);
        }
        for (String word : new String[] {"mul", "div"}) {
            Bench.fails(laid, word + " 0:4 1:2", 3, 1, 1, 2);
            Bench.fails(laid, word + " 2:4 0:3", 3, 1, 0, 3);
            Bench.fails(laid, word + " 0:3 2:2", 3, 1, 2, 2);
            Bench.fails(laid, word + " 3:3 3:1", 3, 1, 3, 1);
            Bench.fails(laid, word + " 3:3 4:1", 3, 1, 4, 1);
        }
        // side by side, and with the same end
        Bench.does("00002c1c", "mul 0:3 3:1", "00002c1c", 3);
        Bench.does("00002c1c", "div 0:3 3:1", "002c0c1c", 3);
        Bench.does("1c00002c", "mul 1:3 0:1", "1c00002c", 3);
        Bench.does("1c00002c", "div 1:3 0:1", "1c002c0c", 3);
        Bench.does("00002c0c", "mul 0:3 2:1", "00004c0c", 3);
        Bench.does("00002c0c", "div 0:3 2:1", "001c0c0c", 3);
        Bench.does("0000002c", "mul 0:4 2:2", "0000004c", 3);
    }

    private static void moveOverlaps() {
        Edge.says(TERMS, "in 'move' they share one, and A ends ahead of B.");
        Bench.fails("12345c", "move 0:2 0:3", 3, 1, 0, 3);
        Bench.fails("12345c", "move 0:2 1:2", 3, 1, 1, 2);
        Bench.fails("12345c", "move 1:1 0:3", 3, 1, 0, 3);
        Bench.fails("12345c", "move 0:1 0:3", 3, 1, 0, 3);
        Bench.does("12345c", "move 0:1 1:2", "5c345c", 3);
        Bench.does("12345c", "move 1:2 0:3", "12345c", 3);
        Bench.does("12345c", "move 2:1 0:3", "12345c", 3);
        Bench.does("12345c", "move 0:3 0:3", "12345c", 2);
        Bench.does("ff345c", "move 0:3 1:2", "00345c", 2);
        Bench.does("5cffff", "move 0:3 0:1", "00005c", 2);
        Bench.does("035cff", "move 1:2 0:2", "03035c", 2);
    }

    private static void wrongLengths() {
        Edge.says(TERMS, "'mul' A B: LENGTH, unless B's is at most 8, and less than A's");
        String row = Bench.wide("1c", 20) + Bench.wide("1c", 20);
        for (String word : new String[] {"mul", "div"}) {
            Bench.fails(row, word + " 0:9 20:9", 2, 1, 20, 9);
            Bench.fails(row, word + " 0:10 20:9", 2, 1, 20, 9);
            Bench.fails(row, word + " 0:16 20:9", 2, 1, 20, 9);
            Bench.fails(row, word + " 0:16 20:16", 2, 1, 20, 16);
            Bench.fails(row, word + " 0:8 20:8", 2, 1, 20, 8);
            Bench.fails(row, word + " 0:7 20:8", 2, 1, 20, 8);
            Bench.fails(row, word + " 0:1 20:1", 2, 1, 20, 1);
            Bench.fails(row, word + " 0:1 20:2", 2, 1, 20, 2);
        }
        String three = Bench.wide("3c", 8);
        Bench.does(Bench.wide("6c", 9) + three, "mul 0:9 9:8", Bench.wide("18c", 9) + three, 3);
        Bench.does(Bench.wide("6c", 16) + three, "mul 0:16 16:8", Bench.wide("18c", 16) + three, 3);
        Bench.does("000c3c", "mul 0:2 2:1", "000c3c", 3);

        Edge.says(TERMS, "'div': LENGTH alike");
        Bench.does(Bench.wide("7c", 9) + three, "div 0:9 9:8", "2c" + Bench.wide("1c", 8) + three, 3);
        Bench.does(Bench.wide("7c", 16) + three, "div 0:16 16:8", Bench.wide("2c", 8) + Bench.wide("1c", 8) + three, 3);
        Bench.does("007c3c", "div 0:2 2:1", "2c1c3c", 3);
    }

    private static void zeros() {
        Edge.says(TERMS, "ZEROS, if in as many of A's first bytes as B has a HALF isn't 0 (the first one from the left)");
        Bench.fails("1000000c" + "001c", "mul 0:4 4:2", 5, 0, 0, 4, 0, 0, 1);
        Bench.fails("0200000c" + "001c", "mul 0:4 4:2", 5, 0, 0, 4, 0, 1, 2);
        Bench.fails("0030000c" + "001c", "mul 0:4 4:2", 5, 0, 0, 4, 1, 0, 3);
        Bench.fails("0009000c" + "001c", "mul 0:4 4:2", 5, 0, 0, 4, 1, 1, 9);
        Bench.does("0000900c" + "001c", "mul 0:4 4:2", "0000900c001c", 3);
        Bench.fails("0034000c" + "001c", "mul 0:4 4:2", 5, 0, 0, 4, 1, 0, 3);
        Bench.fails("9999999c" + "001c", "mul 0:4 4:2", 5, 0, 0, 4, 0, 0, 9);
        Bench.fails("010c" + "0c", "mul 0:2 2:1", 5, 0, 0, 2, 0, 1, 1);
        Bench.does("009c" + "0c", "mul 0:2 2:1", "000c0c", 3);
        String one = Bench.wide("1c", 8);
        Bench.fails(Bench.wide("1", 8) + Bench.wide("0c", 8) + one, "mul 0:16 16:8", 5, 0, 0, 16, 7, 1, 1);
        String most = Bench.times("0", 16) + Bench.times("9", 15) + "c";
        Bench.does(most + one, "mul 0:16 16:8", most + one, 3);
    }

    private static void products() {
        Edge.says(TERMS, "A is the product, its SIGN C if the SIGNS of A and B are of a kind, else D, be it 0 or not.");
        for (String one : SIGNS) {
            for (String two : SIGNS) {
                String sign = isBelow(one) == isBelow(two) ? "c" : "d";
                Bench.does("00007" + one + "6" + two, "mul 0:3 3:1", "00042" + sign + "6" + two, 3);
                Bench.does("00007" + one + "0" + two, "mul 0:3 3:1", "00000" + sign + "0" + two, 3);
                Bench.does("00000" + one + "6" + two, "mul 0:3 3:1", "00000" + sign + "6" + two, 3);
            }
        }
        String half = Bench.times("9", 15);
        Bench.does(Bench.wide(half + "d", 16) + half + "c", "mul 0:16 16:8",
                "0" + Bench.times("9", 14) + "8" + Bench.times("0", 14) + "1d" + half + "c", 3);
    }

    private static void quotients() {
        Edge.says(TERMS, "A less B many of A's first bytes are the quotient, the others what is left over (of the "
                + "NUMBERS without SIGNS, cut down), both PACKED; the quotient's SIGN as in 'mul', what is left over "
                + "has D, if A's is B, D, else C, be they 0 or not.");
        for (String one : SIGNS) {
            for (String two : SIGNS) {
                String sign = isBelow(one) == isBelow(two) ? "c" : "d";
                String left = isBelow(one) ? "d" : "c";
                Bench.does("00043" + one + "6" + two, "div 0:3 3:1", "007" + sign + "1" + left + "6" + two, 3);
                Bench.does("00042" + one + "6" + two, "div 0:3 3:1", "007" + sign + "0" + left + "6" + two, 3);
                Bench.does("00041" + one + "6" + two, "div 0:3 3:1", "006" + sign + "5" + left + "6" + two, 3);
                Bench.does("00005" + one + "6" + two, "div 0:3 3:1", "000" + sign + "5" + left + "6" + two, 3);
                Bench.does("00000" + one + "6" + two, "div 0:3 3:1", "000" + sign + "0" + left + "6" + two, 3);
            }
        }
        String half = Bench.times("9", 15);
        String less = Bench.times("9", 14) + "8";
        Bench.does("0" + less + half + "d" + half + "c", "div 0:16 16:8", half + "d" + less + "d" + half + "c", 3);
    }

    private static void noQuotient() {
        Edge.says(TERMS, "QUOTIENT, if B's NUMBER is 0, or the quotient has no room.");
        for (String sign : SIGNS) {
            Bench.fails("001c" + "0" + sign, "div 0:2 2:1", 7, 0, 0, 2);
            Bench.fails("000c" + "0" + sign, "div 0:2 2:1", 7, 0, 0, 2);
            Bench.fails("00001c" + "000" + sign, "div 0:3 3:2", 7, 0, 0, 3);
            Bench.does("000" + sign + "1c", "div 0:2 2:1", isBelow(sign) ? "0d0d1c" : "0c0c1c", 3);
        }
        Bench.does("009c1c", "div 0:2 2:1", "9c0c1c", 3);
        Bench.fails("010c1c", "div 0:2 2:1", 7, 0, 0, 2);
        Bench.does("019c2c", "div 0:2 2:1", "9c1c2c", 3);
        Bench.fails("020c2c", "div 0:2 2:1", 7, 0, 0, 2);
        Bench.does("00999d1c", "div 0:3 3:1", "999d0d1c", 3);
        Bench.fails("01000d1c", "div 0:3 3:1", 7, 0, 0, 3);
        Bench.fails("99999c1c", "div 0:3 3:1", 7, 0, 0, 3);
        String one = Bench.wide("1c", 8);
        String half = Bench.times("9", 15) + "c";
        Bench.does(Bench.wide(half, 16) + one, "div 0:16 16:8", half + Bench.wide("0c", 8) + one, 3);
        Bench.fails(Bench.wide("1" + Bench.times("0", 15) + "c", 16) + one, "div 0:16 16:8", 7, 0, 0, 16);
        Bench.fails(NINES + "c" + one, "div 0:16 16:8", 7, 0, 0, 16);
        Bench.fails(NINES + "c" + half, "div 0:16 16:8", 7, 0, 0, 16);
        Bench.fails("0" + Bench.times("9", 15) + Bench.times("0", 15) + "c" + half, "div 0:16 16:8", 7, 0, 0, 16);
    }

    private static void keepsCondition() {
        Edge.says(TERMS, "Neither changes CC.");
        for (int cc = 0; cc < 4; cc++) {
            String tested = new String[] {"1c", "12", "ac", "a2"}[cc];
            int due = cc;
            NibbleEngine x = Check.told("at 0 #00004c2c" + tested + ";test 4:1;mul 0:3 3:1;div 0:3 3:1;div 0:2 4:1;");
            x.steps(2);
            Edge.due("'mul'", due, () -> x.count(3));
            x.steps(1);
            Edge.due("'div'", due, () -> x.count(3));
        }
    }

    private static void shiftsLeft() {
        Edge.says(TERMS, "'shift' A n r: the digits go n to the left, 0 behind them; what goes out and isn't 0 is an "
                + "OVERFLOW (as in 'add').");
        Bench.does("12345c", "shift 0:3 0 9", "12345c", 2);
        Bench.does("01234c", "shift 0:3 1 9", "12340c", 2);
        Bench.does("12345c", "shift 0:3 1 9", "23450c", 3);
        Bench.does("00001c", "shift 0:3 4 0", "10000c", 2);
        Bench.does("00001c", "shift 0:3 5 0", "00000c", 3);
        Bench.does("00010c", "shift 0:3 4 0", "00000c", 3);
        Bench.does("00001c", "shift 0:3 31 0", "00000c", 3);
        Bench.does("00000c", "shift 0:3 5 0", "00000c", 0);
        Bench.does("00000c", "shift 0:3 31 0", "00000c", 0);
        Bench.does("9c", "shift 0:1 0 0", "9c", 2);
        Bench.does("9c", "shift 0:1 1 0", "0c", 3);
        Bench.does(Bench.wide("1c", 16), "shift 0:16 30 0", "1" + Bench.times("0", 30) + "c", 2);
        Bench.does(Bench.wide("1c", 16), "shift 0:16 31 0", Bench.wide("0c", 16), 3);
        Bench.does(NINES + "c", "shift 0:16 31 0", Bench.wide("0c", 16), 3);
        Bench.does(NINES + "c", "shift 0:16 30 0", "9" + Bench.times("0", 30) + "c", 3);
    }

    private static void shiftsRight() {
        Edge.says(TERMS, "Behind '-' n to the right: to the last one that goes out r is added, what is 10 or more adds "
                + "1 to what stays (n 0: r counts for nothing).");
        for (int digit = 0; digit <= 9; digit++) {
            for (int r = 0; r <= 9; r++) {
                String due = digit + r >= 10 ? "00008c" : "00007c";
                Bench.does("0007" + digit + "c", "shift 0:3 -1 " + r, due, 2);
            }
        }
        // of those that go out the last one alone counts
        Bench.does("00719c", "shift 0:3 -2 8", "00007c", 2);
        Bench.does("00710c", "shift 0:3 -2 9", "00008c", 2);
        Bench.does("00099c", "shift 0:3 -2 0", "00000c", 0);
        Bench.does("00099c", "shift 0:3 -2 1", "00001c", 2);
        Bench.does("99999c", "shift 0:3 -1 0", "09999c", 2);
        Bench.does("99999c", "shift 0:3 -1 1", "10000c", 2);
        Bench.does("12345c", "shift 0:3 -4 7", "00001c", 2);
        Bench.does("12345c", "shift 0:3 -4 8", "00002c", 2);
        Bench.does("12345c", "shift 0:3 -5 8", "00000c", 0);
        Bench.does("12345c", "shift 0:3 -5 9", "00001c", 2);
        Bench.does("12345c", "shift 0:3 -6 9", "00000c", 0);
        Bench.does("12345c", "shift 0:3 -32 9", "00000c", 0);
        Bench.does("12345c", "shift 0:3 -0 9", "12345c", 2);
        Bench.does("99999c", "shift 0:3 -0 9", "99999c", 2);
        Bench.does("9c", "shift 0:1 -1 0", "0c", 0);
        Bench.does("9c", "shift 0:1 -1 1", "1c", 2);
        Bench.does("9c", "shift 0:1 -2 9", "0c", 0);
        Bench.does(NINES + "c", "shift 0:16 -30 0", Bench.wide("9c", 16), 2);
        Bench.does(NINES + "c", "shift 0:16 -30 1", Bench.wide("10c", 16), 2);
        Bench.does(NINES + "c", "shift 0:16 -31 0", Bench.wide("0c", 16), 0);
        Bench.does(NINES + "c", "shift 0:16 -31 1", Bench.wide("1c", 16), 2);
        Bench.does(NINES + "c", "shift 0:16 -32 9", Bench.wide("0c", 16), 0);
    }

    private static void shiftSigns() {
        Edge.says(TERMS, "SIGN, CC as in 'add'.");
        for (String sign : SIGNS) {
            boolean below = isBelow(sign);
            String laid = below ? "d" : "c";
            int cc = below ? 1 : 2;
            Bench.does("00012" + sign, "shift 0:3 0 0", "00012" + laid, cc);
            Bench.does("00012" + sign, "shift 0:3 3 0", "12000" + laid, cc);
            Bench.does("00012" + sign, "shift 0:3 4 0", "20000" + laid, 3);
            Bench.does("00012" + sign, "shift 0:3 5 0", "00000" + laid, 3);
            Bench.does("00012" + sign, "shift 0:3 -1 0", "00001" + laid, cc);
            Bench.does("00012" + sign, "shift 0:3 -1 8", "00002" + laid, cc);
            Bench.does("00012" + sign, "shift 0:3 -2 8", "00000c", 0);
            Bench.does("00012" + sign, "shift 0:3 -2 9", "00001" + laid, cc);
            Bench.does("00000" + sign, "shift 0:3 0 0", "00000c", 0);
            Bench.does("00000" + sign, "shift 0:3 31 0", "00000c", 0);
            Bench.does("00000" + sign, "shift 0:3 -1 9", "00000c", 0);
        }
    }
}
