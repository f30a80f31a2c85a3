/** Each sentence of the Terms, 2, on REGISTERS, branches and GUARDS. */
public final class BranchEdgeTest {
    private static final String TERMS = "Terms 2";

    public static void main(String[] args) {
        ranges();
        decimals();
        loads();
        sums();
        tests();
        counts();
        conditions();
        guards();
        backs();
        operands();
        Edge.end("BranchEdgeTest");
    }

    private static void ranged(String laid, int due) {
        NibbleEngine x = Bench.does(laid, "bin %7 0", laid, 3);
        Edge.due("the NUMBER of " + laid, due, () -> x.register(7));
    }

    private static void ranges() {
        Edge.says(TERMS, "'bin' %r b: REGISTER r is the NUMBER of the 8 bytes at b (PACKED): RANGE, if that isn't an "
                + "int.");
        ranged("000002147483646c", Bench.MOST - 1);
        ranged("000002147483647c", Bench.MOST);
        ranged("000002147483647f", Bench.MOST);
        ranged("000002147483647d", -Bench.MOST);
        ranged("000002147483648d", Bench.LEAST);
        ranged("000002147483648b", Bench.LEAST);
        ranged("000000000000000d", 0);
        ranged("000000000000001b", -1);
        Bench.fails("000002147483648c", "bin %7 0", 8, 0, 0, 8);
        Bench.fails("000002147483649d", "bin %7 0", 8, 0, 0, 8);
        Bench.fails("000004294967296c", "bin %7 0", 8, 0, 0, 8);
        Bench.fails("000004294967297d", "bin %7 0", 8, 0, 0, 8);
        Bench.fails("999999999999999c", "bin %7 0", 8, 0, 0, 8);
        Bench.fails("999999999999999d", "bin %7 0", 8, 0, 0, 8);
        NibbleEngine x = Check.told("at 248 packed 5 in 8;bin %0 248;bin %0 249;");
        x.steps(2);
        Edge.due("the last 8 bytes", 5, () -> x.register(0));
        Bench.blames("a byte further", x, 1, 0, 249, 8);
    }

    private static void decimals() {
        Edge.says(TERMS, "'dec': the 8 bytes at b are the NUMBER that REGISTER r holds, PACKED.");
        int[] held = {0, 1, -1, 9, -10, Bench.MOST, Bench.LEAST, Bench.LEAST + 1};
        String[] due = {"0c", "1c", "1d", "9c", "10d", "2147483647c", "2147483648d", "2147483647d"};
        for (int i = 0; i < held.length; i++) {
            NibbleEngine x = Check.told("at 0 #" + Bench.times("ff", 10) + ";dec %3 1;dec %3 248;");
            x.set(3, held[i]);
            x.steps(2);
            Edge.bytes("of " + held[i] + ", the bytes need not be PACKED", "ff" + Bench.wide(due[i], 8) + "ff", x, 0);
            Edge.bytes("of " + held[i] + ", the last ones", Bench.wide(due[i], 8), x, 248);
            Edge.due("no FAULT", 0, () -> x.count(6));
            Edge.due("CC stays", 0, () -> x.count(3));
        }
    }

    private static void loads() {
        Edge.says(TERMS, "'load': r is the ADDRESS.");
        int[][] cases = {{0, 0}, {255, 0}, {255, 1}, {0, -1}, {255, Bench.MOST}, {0, Bench.LEAST}};
        for (int[] one : cases) {
            NibbleEngine x = Check.told("load %6 " + one[0] + "%5;");
            x.set(5, one[1]);
            x.steps(1);
            Edge.due(one[0] + " and " + one[1], one[0] + one[1], () -> x.register(6));
            Edge.due("no FAULT", 0, () -> x.count(6));
        }
    }

    private static void sums() {
        Edge.says(TERMS, "'plus': r is more by the NUMBER, or less.");
        int[] held = {0, 1, -1, Bench.MOST - 9999, Bench.MOST - 9998, Bench.MOST, Bench.LEAST + 9999, Bench.LEAST + 9998, Bench.LEAST};
        for (int number : held) {
            NibbleEngine x = Check.told("plus %4 9999;plus %5 -9999;plus %6 0;plus %7 -0;");
            for (int i = 4; i < 8; i++) {
                x.set(i, number);
            }
            x.steps(4);
            Edge.due("more, " + number, number + 9999, () -> x.register(4));
            Edge.due("less, " + number, number - 9999, () -> x.register(5));
            Edge.due("by 0, " + number, number, () -> x.register(6));
            Edge.due("by less 0, " + number, number, () -> x.register(7));
        }
    }

    private static void tests() {
        Edge.says(TERMS, "'test': CC 0, if A is PACKED; 1, if the SIGN alone is wrong; 2, if digits alone are; 3 both.");
        String nines = Bench.times("9", 31);
        String[] laid = {"0a", "9f", "00", "09", "a9", "f0", "aa", "ff", "123c", "1239", "a23c", "1a3c", "12ac", "12aa", "1a39",
            nines + "c", nines + "9", "a" + nines.substring(1) + "c", nines.substring(1) + "ac", nines.substring(1) + "a9"};
        int[] due = {0, 0, 1, 1, 3, 3, 2, 2, 0, 1, 2, 2, 2, 2, 3, 0, 1, 2, 2, 3};
        for (int i = 0; i < laid.length; i++) {
            Bench.does(laid[i], "test 0:" + laid[i].length() / 2, laid[i], due[i]);
        }
        NibbleEngine end = Check.told("at 240 packed 0 in 16;test 220:1;test 240:16;");
        end.steps(2);
        Edge.due("the last bytes", 0, () -> end.count(3));
        Edge.due("no FAULT", 0, () -> end.count(6));
    }

    private static void counts() {
        Edge.says(TERMS, "'count': r is one less; if it isn't 0 then, NEXT is the NAME's.");
        int[] held = {3, 2, 1, 0, -1, Bench.MOST, Bench.LEAST + 1, Bench.LEAST};
        for (int number : held) {
            NibbleEngine x = Check.told("count %7 a;halt;halt;a:halt;");
            x.set(7, number);
            x.steps(1);
            Edge.due("of " + number, number - 1, () -> x.register(7));
            Edge.due("NEXT by " + number, number == 1 ? 1 : 3, () -> x.count(2));
            Edge.due("CC stays by " + number, 0, () -> x.count(3));
        }
    }

    private static void conditions() {
        Edge.says(TERMS, "'on' n: NEXT is the NAME's, if n has the bit 8 (CC 0), 4 (1), 2 (2), 1 (3).");
        String[] tested = {"1c", "12", "ac", "a2"};
        int[] bits = {8, 4, 2, 1};
        for (int cc = 0; cc < 4; cc++) {
            for (int n = 0; n < 16; n++) {
                NibbleEngine x = Check.told("at 0 #" + tested[cc] + ";test 0:1;on " + n + " a;halt;a:halt;");
                x.steps(2);
                String what = "CC " + cc + ", n " + n;
                int stays = cc;
                Edge.due(what, (n & bits[cc]) == 0 ? 2 : 3, () -> x.count(2));
                Edge.due(what + ": CC stays", stays, () -> x.count(3));
                Edge.due(what + ": no FAULT", 0, () -> x.count(6));
                Bench.onlyThis(what, x);
            }
        }
        NibbleEngine first = Check.told("on 8 a;halt;a:halt;");
        first.steps(1);
        Edge.due("CC is 0 first", 2, () -> first.count(2));
    }

    private static void guards() {
        Edge.says(TERMS, "'guard' k: FAULTS of the kind k are GUARDED by the NAME's from now on, without one they "
                + "aren't.");
        for (int kind = 1; kind <= 8; kind++) {
            int one = kind;
            NibbleEngine x = Check.told("a:guard " + kind + " a;guard " + kind + " z;guard " + kind + ";guard " + kind + ";z:halt;");
            int[] due = {-1, 0, 4, -1, -1};
            for (int i = 0; i < due.length; i++) {
                Edge.due("kind " + kind + " behind " + i, due[i], () -> x.guard(one));
                for (int other = 1; other <= 8; other++) {
                    int another = other;
                    if (other != kind) {
                        Edge.due("kind " + other + " stays", -1, () -> x.guard(another));
                    }
                }
                x.steps(1);
            }
        }
        NibbleEngine later = Check.told("test 255:2;guard 1 g;g:halt;");
        later.steps(1);
        Edge.due("not ahead of it", 2, () -> later.count(1));
        NibbleEngine first = Check.told("g:guard 1 g;test 255:2;");
        first.steps(2);
        Edge.due("by the first INSTRUCTION", 0, () -> first.count(2));
        Edge.due("it RUNS", 0, () -> first.count(1));
    }

    private static void backs() {
        Edge.says(TERMS, "'back': NEXT is the one behind OLD, if there is an OLD.");
        NibbleEngine none = Check.told("plus %1 1;back;plus %1 1;halt;");
        none.steps(2);
        Edge.due("there is none: the one behind 'back'", 2, () -> none.count(2));
        NibbleEngine zero = Check.told("test 255%1:1;plus %2 1;halt;b:guard 1 g;on 15 a;g:back;a:plus %1 9;");
        zero.next(3);
        zero.steps(3);
        zero.next(0);
        zero.steps(1);
        Edge.due("OLD is 0", 0, () -> zero.count(4));
        Edge.due("NEXT is the GUARD's", 5, () -> zero.count(2));
        zero.steps(1);
        Edge.due("the one behind 0", 1, () -> zero.count(2));
        NibbleEngine last = Check.told("on 15 a;g:back;a:guard 1 g;test 255:2;");
        last.steps(4);
        Edge.due("behind the last one", 4, () -> last.count(2));
        Edge.due("HALTED there", 1, () -> last.count(1));
        last.next(1);
        last.steps(1);
        Edge.due("OLD stays", 4, () -> last.count(2));
    }

    private static void operands() {
        Edge.says(TERMS, "'bin', 'dec' have the FIELD of 8 bytes at b as their first operand, 'copy', 'digits', "
                + "'zones' one of A's LENGTH at b as their second one; 'load' has none.");
        Bench.fails("00", "bin %1 255", 1, 0, 255, 8);
        Bench.fails("00", "dec %1 250", 1, 0, 250, 8);
        Bench.fails("00", "copy 0:64 193", 1, 1, 193, 64);
        Bench.fails("00", "digits 0:2 255", 1, 1, 255, 2);
        Bench.fails("00", "zones 0:3 254", 1, 1, 254, 3);
        Bench.does("00", "copy 0:64 192", "00", 3);
        Bench.does("00", "digits 0:1 255", "00", 3);
        Bench.does("00", "zones 0:2 254", "00", 3);
        Bench.does("00", "load %1 255", "00", 3);
    }
}
