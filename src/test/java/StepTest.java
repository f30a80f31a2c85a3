/** Promise 17: steps, and what each INSTRUCTION does, its FAULTS and what guards against them. */
public final class StepTest {
    public static void main(String[] args) {
        promise17();
        promise17Time();
        packs();
        moves();
        numbers();
        overflows();
        products();
        quotients();
        shifts();
        edits();
        editFaults();
        marks();
        registers();
        ranges();
        branches();
        backs();
        guards();
        order();
        Check.end("StepTest");
    }

    private static void promise17() {
        NibbleEngine x = Check.told("a:plus %1 1;plus %1 1;on 15 a;");
        Check.due("17: one", 1, () -> x.steps(1));
        Check.due("17: fifty", 50, () -> x.steps(50));
        Check.due("17: TIME", 51, () -> x.count(0));
        for (int many : new int[] {0, 51, -1, Integer.MIN_VALUE, Integer.MAX_VALUE}) {
            int before = x.count(13);
            Check.due("17: refused " + many, -1, () -> x.steps(many));
            Check.due("17: STATUS " + many, before + 1, () -> x.count(13));
        }
        Check.due("17: nothing was done", 51, () -> x.count(0));
        Check.due("17: two ACTS", 2, () -> x.count(9));
        NibbleEngine halting = Check.told("plus %1 1;halt;plus %1 1;");
        Check.due("17: fewer", 2, () -> halting.steps(50));
        Check.due("17: HALTED", 1, () -> halting.count(1));
        Check.due("17: behind 'halt'", 2, () -> halting.count(2));
        Check.due("17: it doesn't RUN", -1, () -> halting.steps(1));
        halting.next(2);
        Check.due("17: to the end", 1, () -> halting.steps(5));
        Check.due("17: none is NEXT", 3, () -> halting.count(2));
        Check.due("17: HALTED, too", 1, () -> halting.count(1));
        NibbleEngine failing = Check.told("plus %1 1;test 250:7;plus %1 1;");
        Check.due("17: the FAULT is one", 2, () -> failing.steps(3));
        Check.due("17: FAILED", 2, () -> failing.count(1));
        Check.due("17: NEXT stays", 1, () -> failing.count(2));
        Check.due("17: TIME goes on", 2, () -> failing.count(0));
        Check.due("17: DONE, with a FAULT", 1, () -> failing.done(1));
        Check.due("17: TRACE, with a FAULT", 1, () -> failing.trace(0));
        Check.due("17: never done", 1, () -> failing.count(7));
        Check.due("17: nothing at all then", -1, () -> failing.steps(1));
        Check.due("17: the empty PROGRAM", -1, () -> new NibbleEngine().steps(1));
    }

    private static void promise17Time() {
        NibbleEngine x = Check.told("a:plus %1 1;on 15 a;");
        for (int i = 0; i < 399; i++) {
            x.steps(50);
        }
        Check.due("17: 49 more", 49, () -> x.steps(49));
        Check.due("17: TIME 19999", 19999, () -> x.count(0));
        Check.due("17: above 20000", -1, () -> x.steps(2));
        Check.due("17: up to it", 1, () -> x.steps(1));
        Check.due("17: no more", -1, () -> x.steps(1));
        Check.due("17: TIME 20000", 20000, () -> x.count(0));
        Check.due("17: THEN goes on", 10050, () -> x.holds(100, 1));
        Check.due("17: it begins anew", 0, () -> x.begin());
        Check.due("17: TIME stays", -1, () -> x.steps(1));
    }

    /** What stands from place 0 on behind all STEPS, by what is laid from there on, and CC. */
    private static NibbleEngine stands(String laid, String operation, String due, int cc) {
        NibbleEngine x = Check.told("at 0 #" + laid + ";" + operation + ";");
        x.steps(50);
        Check.due("17: no FAULT by " + operation, 0, () -> x.count(6));
        Check.bytes("17: #" + laid + " " + operation, due, x, 0);
        Check.due("17: CC by #" + laid + " " + operation, cc, () -> x.count(3));
        return x;
    }

    /** The kind of the FAULT and its operand; nothing is done. */
    private static NibbleEngine fails(String laid, String operation, int kind, int operand) {
        NibbleEngine x = Check.told("at 0 #" + laid + ";" + operation + ";");
        x.steps(50);
        Check.due("17: kind by #" + laid + " " + operation, kind, () -> x.why(0, 0));
        Check.due("17: operand by #" + laid + " " + operation, operand, () -> x.why(1, 0));
        Check.bytes("17: nothing is done by #" + laid + " " + operation, laid, x, 0);
        Check.due("17: CC stays by #" + laid + " " + operation, 0, () -> x.count(3));
        Check.due("17: FAILED by #" + laid + " " + operation, 2, () -> x.count(1));
        return x;
    }

    private static void packs() {
        stands("f1f2f3d4" + "ffffff", "pack 4:3 0:4", "f1f2f3d4" + "01234d", 0);
        stands("f1f2f3d4" + "ff", "pack 4:1 0:4", "f1f2f3d4" + "4d", 0);
        stands("a1" + "ffffff", "pack 1:3 0:1", "a1" + "00001a", 0);
        stands("f1f2d3" + "ffff", "pack 3:2 0:3", "f1f2d3" + "123d", 0);
        stands("f1f2d3" + "ffffff", "pack 3:3 0:3", "f1f2d3" + "00123d", 0);
        stands("f9f1f2d3" + "ffff", "pack 4:2 1:3", "f9f1f2d3" + "123d", 0);
        stands("f9f1d3" + "ffff", "pack 3:2 1:2", "f9f1d3" + "013d", 0);
        stands("f1f2f3c4", "pack 0:4 0:4", "0001234c", 0);
        stands("f1f2f3c4", "pack 1:3 0:4", "f101234c", 0);
        // the byte that was laid last is looked at as it is then
        stands("f1f2f3c4", "pack 0:3 0:4", "012c4cc4", 0);
        stands("123d" + "ffffffffff", "unpack 2:5 0:2", "123d" + "f0f0f1f2d3", 0);
        stands("123d" + "ffff", "unpack 2:2 0:2", "123d" + "f2d3", 0);
        stands("123d" + "ff", "unpack 2:1 0:2", "123d" + "d3", 0);
        stands("0000123c", "unpack 0:4 2:2", "f0f1f2c3", 0);
        stands("000000123c", "unpack 0:5 3:2", "f0f0f1f2c3", 0);
        // a byte of B is looked at once for both halves, be it laid on between them
        stands("12345678", "unpack 0:4 0:4", "f5f5f687", 0);
        stands("123456", "unpack 0:3 0:3", "f3f465", 0);
        stands("1234" + "ffff7c", "offset 2:3 0:2", "1234" + "01234c", 0);
        stands("123456" + "ff7c", "offset 3:2 0:3", "123456" + "456c", 0);
        stands("12" + "ffffff7c", "offset 1:4 0:1", "12" + "0000012c", 0);
        stands("123c", "offset 0:2 0:2", "23cc", 0);
        stands("12345c", "offset 1:2 0:2", "12234c", 0);
        // here the byte is laid ahead of being looked at
        stands("12345c", "offset 0:2 1:2", "45c45c", 0);
    }

    private static void moves() {
        stands("123456", "copy 1:2 0", "121212", 0);
        stands("123456", "copy 0:2 1", "345656", 0);
        stands("123456", "digits 1:2 0", "123252", 0);
        stands("123456", "zones 1:2 0", "121416", 0);
        stands("a1b2c3", "digits 0:1 2", "a3b2c3", 0);
        stands("a1b2c3", "zones 0:1 2", "c1b2c3", 0);
        stands("a2b1", "zones 0:1 1", "b2b1", 0);
        stands("a2b1", "digits 0:1 1", "a1b1", 0);
        stands("a6b9", "zones 0:1 1", "b6b9", 0);
        fails("1c1c", "plus %1 1;copy 0:1 255%1", 1, 1);
        fails("1c1c", "plus %1 1;add 0:1 255%1:1", 1, 1);
        fails("1c1c", "plus %1 1;add 255%1:1 0:1", 1, 0);
        fails("1c1c", "plus %1 1;test 255%1:1", 1, 0);
        fails("1c1c", "plus %1 -1;copy 0:1 0%1", 1, 1);
        NibbleEngine x = Check.told("at 0 #0102;copy 192:64 0;copy 0:64 192;");
        x.steps(2);
        Check.bytes("17: 64 bytes", "010200", x, 192);
    }

    private static void numbers() {
        stands("12345c" + "ffff", "move 3:2 1:2", "12345c" + "345c", 2);
        stands("5b" + "ffffff", "move 1:3 0:1", "5b" + "00005d", 1);
        stands("5f" + "ff", "move 1:1 0:1", "5f" + "5c", 2);
        stands("0d" + "ff", "move 1:1 0:1", "0d" + "0c", 0);
        stands("1c0000", "move 0:3 0:1", "00001c", 2);
        stands("00123a", "move 1:2 0:3", "00123c", 2);
        stands("012c" + "5d", "add 0:2 2:1", "007c5d", 2);
        stands("012c" + "5d", "sub 0:2 2:1", "017c5d", 2);
        stands("005c" + "012c", "sub 0:2 2:2", "007d012c", 1);
        stands("005d" + "005c", "add 0:2 2:2", "000c005c", 0);
        stands("0d" + "0d", "add 0:1 1:1", "0c0d", 0);
        stands("0d" + "0c", "sub 0:1 1:1", "0c0c", 0);
        stands("5d", "sub 0:1 0:1", "0c", 0);
        stands("4c", "add 0:1 0:1", "8c", 2);
        stands("00123c", "add 0:3 1:2", "00246c", 2);
        stands("00123c", "sub 1:2 0:3", "00000c", 0);
        stands("4f" + "3a", "add 0:1 1:1", "7c3a", 2);
        stands("4c" + "5d", "add 0:1 1:1", "1d5d", 1);
        stands("5c" + "4d", "add 0:1 1:1", "1c4d", 2);
        stands("015c" + "024c", "sub 0:2 2:2", "009d024c", 1);
        stands("4e" + "3b", "add 0:1 1:1", "1c3b", 2);
        stands("012c12d0", "compare 0:2 0:2", "012c12d0", 0);
        stands("012c" + "012d", "compare 0:2 2:2", "012c012d", 2);
        stands("012d" + "5c", "compare 0:2 2:1", "012d5c", 1);
        stands("0d" + "000c", "compare 0:1 1:2", "0d000c", 0);
        stands("2d" + "1d", "compare 0:1 1:1", "2d1d", 1);
        stands("12345c", "compare 0:3 2:1", "12345c", 2);
        stands("12345c", "compare 1:2 0:3", "12345c", 1);
        String most = "9".repeat(31);
        stands(most + "c" + most + "d", "compare 0:16 16:16", most + "c" + most + "d", 2);
        stands(most + "d" + most + "c", "compare 0:16 16:16", most + "d" + most + "c", 1);
        stands("9".repeat(30) + "8c1c", "add 0:16 16:1", most + "c1c", 2);
        fails("00123c", "move 0:2 0:3", 3, 1);
        fails("00123c", "add 0:2 0:3", 3, 1);
        fails("00123c", "sub 0:3 1:1", 3, 1);
        fails("1234", "move 2:2 0:2", 4, 1);
        fails("1c1d11", "add 0:2 2:1", 4, 0);
        fails("1c11", "sub 0:1 1:1", 4, 1);
        fails("1c11", "compare 1:1 0:1", 4, 0);
        fails("1c11", "compare 0:1 1:1", 4, 1);
    }

    private static void overflows() {
        stands("999c" + "2c", "add 0:2 2:1", "001c2c", 3);
        stands("999c" + "1c", "add 0:2 2:1", "000c1c", 3);
        stands("999d" + "1c", "sub 0:2 2:1", "000d1c", 3);
        stands("500d" + "ff", "move 2:1 0:2", "500d0d", 3);
        stands("00123d", "move 2:1 0:3", "00123d", 3);
        stands("1c" + "999c", "sub 0:1 1:2", "8d999c", 3);
        stands("9a" + "1e", "add 0:1 1:1", "0c1e", 3);
        stands("5d", "shift 0:1 1 0", "0d", 3);
        String most = "9".repeat(31);
        stands(most + "d", "add 0:16 0:16", "9".repeat(30) + "8d", 3);
        NibbleEngine x = Check.told("at 0 #999c1c;add 0:2 2:1;halt;");
        x.steps(1);
        Check.due("17: OVERFLOW isn't a FAULT", 0, () -> x.count(6));
        Check.due("17: it goes on", 0, () -> x.count(1));
        Check.due("17: NEXT is the one behind", 1, () -> x.count(2));
        NibbleEngine y = Check.told("at 0 #999c1c;guard 6 g;add 0:2 2:1;halt;g:halt;");
        y.steps(2);
        Check.due("17: a FAULT if it is GUARDED", 1, () -> y.count(6));
        Check.bytes("17: all is done then", "000c1c", y, 0);
        Check.due("17: CC, too", 3, () -> y.count(3));
        Check.due("17: NEXT is the GUARD's", 3, () -> y.count(2));
        Check.due("17: OLD", 1, () -> y.count(4));
        Check.due("17: WHY", 6, () -> y.why(0, 0));
        NibbleEngine unguarded = Check.told("at 0 #999c1c;guard 6 g;guard 6;add 0:2 2:1;halt;g:halt;");
        unguarded.steps(50);
        Check.due("17: not GUARDED any more", 0, () -> unguarded.count(6));
    }

    private static void products() {
        stands("0000025c" + "004d", "mul 0:4 4:2", "0000100d" + "004d", 0);
        stands("0000099d" + "9b", "mul 0:4 4:1", "0000891c" + "9b", 0);
        stands("00000d" + "5c", "mul 0:3 3:1", "00000d5c", 0);
        stands("00000d" + "5d", "mul 0:3 3:1", "00000c5d", 0);
        stands("00000f" + "5e", "mul 0:3 3:1", "00000c5e", 0);
        stands("00009c", "mul 0:3 2:1", "00081c", 0);
        stands("0099999c" + "9c", "mul 0:4 4:1", "0899991c9c", 0);
        String half = "9".repeat(15) + "c";
        stands("0".repeat(16) + half + half, "mul 0:16 16:8", "0" + "999999999999998" + "000000000000001" + "c" + half, 0);
        fails("000c" + "001c", "mul 0:2 2:2", 2, 1);
        fails("000c" + "00001c", "mul 0:2 2:3", 2, 1);
        fails("0".repeat(31) + "c" + "0".repeat(16) + "1c", "mul 0:16 16:9", 2, 1);
        fails("00123c", "mul 0:3 1:1", 3, 1);
        fails("00123c", "mul 0:3 0:2", 3, 1);
        fails("0012cc" + "1c", "mul 0:3 3:1", 4, 0);
        fails("00123c" + "11", "mul 0:3 3:1", 4, 1);
        fails("10123c" + "1c", "mul 0:3 3:1", 5, 0);
        fails("01123c" + "1c", "mul 0:3 3:1", 5, 0);
        fails("00123c" + "001c", "mul 0:3 3:2", 5, 0);
    }

    private static void quotients() {
        stands("0001000d" + "007c", "div 0:4 4:2", "142d006d" + "007c", 0);
        stands("0001000c" + "007d", "div 0:4 4:2", "142d006c" + "007d", 0);
        stands("0001000b" + "007b", "div 0:4 4:2", "142c006d" + "007b", 0);
        stands("00003d" + "5c", "div 0:3 3:1", "000d3d5c", 0);
        stands("00010c" + "5c", "div 0:3 3:1", "002c0c5c", 0);
        stands("00000d" + "5d", "div 0:3 3:1", "000c0d5d", 0);
        stands("00009c", "div 0:3 2:1", "001c0c", 0);
        stands("00999c" + "1c", "div 0:3 3:1", "999c0c1c", 0);
        String half = "9".repeat(15);
        stands("0" + "999999999999998" + half + "c" + half + "c", "div 0:16 16:8",
                half + "c" + "999999999999998c" + half + "c", 0);
        fails("0" + half + "0".repeat(15) + "c" + half + "c", "div 0:16 16:8", 7, 0);
        fails("00010c" + "0c", "div 0:3 3:1", 7, 0);
        fails("00010c" + "0d", "div 0:3 3:1", 7, 0);
        fails("00000c" + "0c", "div 0:3 3:1", 7, 0);
        fails("01000c" + "1c", "div 0:3 3:1", 7, 0);
        fails("0c" + "1c", "div 0:1 1:1", 2, 1);
        fails("0".repeat(31) + "c" + "0".repeat(16) + "1c", "div 0:16 16:9", 2, 1);
        fails("00123c", "div 0:3 1:1", 3, 1);
        fails("0012cc" + "1c", "div 0:3 3:1", 4, 0);
        fails("00123c" + "11", "div 0:3 3:1", 4, 1);
    }

    private static void shifts() {
        stands("00123c", "shift 0:3 2 9", "12300c", 2);
        stands("00123d", "shift 0:3 0 5", "00123d", 1);
        stands("00123c", "shift 0:3 3 0", "23000c", 3);
        stands("00123c", "shift 0:3 5 0", "00000c", 3);
        stands("00123d", "shift 0:3 31 0", "00000d", 3);
        stands("00000f", "shift 0:3 31 0", "00000c", 0);
        stands("12345c", "shift 0:3 -1 5", "01235c", 2);
        stands("12345c", "shift 0:3 -1 4", "01234c", 2);
        stands("12345d", "shift 0:3 -2 6", "00124d", 1);
        stands("12345d", "shift 0:3 -2 5", "00123d", 1);
        stands("12345d", "shift 0:3 -5 9", "00001d", 1);
        stands("12345d", "shift 0:3 -6 9", "00000c", 0);
        stands("12345d", "shift 0:3 -32 9", "00000c", 0);
        stands("99999b", "shift 0:3 -1 1", "10000d", 1);
        stands("00885c", "shift 0:3 -1 5", "00089c", 2);
        stands("00990c", "shift 0:3 -1 9", "00099c", 2);
        stands("00899c", "shift 0:3 -1 1", "00090c", 2);
        stands("99999a", "shift 0:3 -0 9", "99999c", 2);
        stands("00000b", "shift 0:3 0 0", "00000c", 0);
        stands("9c", "shift 0:1 -1 1", "1c", 2);
        String most = "9".repeat(31);
        stands(most + "c", "shift 0:16 -31 1", "0".repeat(30) + "1c", 2);
        stands(most + "c", "shift 0:16 -32 9", "0".repeat(31) + "c", 0);
        stands("0".repeat(30) + "1c", "shift 0:16 30 0", "1" + "0".repeat(30) + "c", 2);
        stands("0".repeat(30) + "1c", "shift 0:16 31 0", "0".repeat(31) + "c", 3);
        fails("1234", "shift 0:2 0 0", 4, 0);
    }

    /** 'edit' of a whole pattern by what stands right behind it. */
    private static void edited(String pattern, String source, String due, int cc) {
        int length = pattern.length() / 2;
        stands(pattern + source, "edit 0:" + length + " " + length, due + source, cc);
    }

    private static void edits() {
        edited("4020204b2020", "0123", "4040f14bf2f3", 1);
        edited("4020204b2020", "0003", "4040404040f3", 1);
        edited("4020214b2020", "0003", "4040404bf0f3", 1);
        edited("4020204b2020", "0000", "404040404040", 0);
        edited("4021204b2020", "0000", "4040f04bf0f0", 0);
        edited("40202020", "123c", "40f1f2f3", 2);
        edited("402060", "5c", "40f540", 2);
        edited("402060", "5a", "40f540", 2);
        edited("402060", "5e", "40f540", 2);
        edited("402060", "5f", "40f540", 2);
        edited("402060", "5d", "40f560", 1);
        edited("402060", "5b", "40f560", 1);
        edited("402060", "0d", "404040", 0);
        edited("402160", "0d", "404060", 0);
        edited("402160", "0f", "404040", 0);
        edited("4020204020", "5a7c3d", "40f5f740f3", 1);
        edited("402022205c", "12", "40f140f25c", 1);
        edited("402022205c", "10", "40f1404040", 0);
        edited("4020225c", "5d", "40f54040", 0);
        edited("40205c225c20", "50", "40f55c404040", 0);
        edited("402060", "19", "40f160", 1);
        edited("402060", "90", "40f960", 1);
        edited("2020", "05", "20f5", 1);
        edited("2120", "00", "21f0", 0);
        edited("5c", "", "5c", 0);
        edited("22ff", "", "2222", 0);
        StringBuilder pattern = new StringBuilder();
        StringBuilder due = new StringBuilder();
        for (int i = 0; i < 64; i++) {
            pattern.append(i == 0 ? "21" : "20");
            due.append("f").append(i % 2 + 1);
        }
        edited(pattern.toString(), "12".repeat(32), due.toString(), 1);
    }

    private static void editFaults() {
        fails("4020" + "a1", "edit 0:2 2", 4, 1);
        fails("402020" + "1cf1", "edit 0:3 3", 4, 1);
        fails("402020" + "1cf1", "mark 0:3 3", 4, 1);
        fails("2020" + "1cf1", "edit 0:2 2", 4, 1);
        fails("2222" + "20" + "a1", "edit 0:3 3", 4, 1);
        NibbleEngine zero = Check.told("at 0 #12;at 10 #402020;edit 10:3 0;");
        zero.steps(1);
        Check.bytes("17: b at PLACE 0", "40f1f2", zero, 10);
        // each one begins anew: no right HALF waits, SEEN is off, no digit has come
        NibbleEngine again = Check.told("at 0 #40201240203040200012;at 20 #40205c;edit 0:2 2;edit 3:2 5;edit 6:2 8;"
                + "mark 20:3 9;edit 20:1 0;");
        again.steps(1);
        Check.bytes("17: the first one", "40f112", again, 0);
        again.steps(1);
        Check.bytes("17: the second one", "40f330", again, 3);
        again.steps(1);
        Check.bytes("17: the third one", "404000", again, 6);
        Check.due("17: none isn't 0", 0, () -> again.count(3));
        again.steps(1);
        Check.bytes("17: the fourth one", "40f15c", again, 20);
        again.steps(1);
        Check.due("17: without digits", 0, () -> again.count(3));
        fails("402020", "plus %1 1;edit 0:3 255%1", 1, 1);
        fails("402020", "plus %1 -1;edit 0:3 0%1", 1, 1);
        fails("402020", "edit 254:3 0", 1, 0);
        NibbleEngine late = Check.told("at 0 #402020201c;at 255 #12;edit 0:4 255;");
        late.steps(1);
        Check.bytes("17: nothing is done, be it late", "40202020", late, 0);
        Check.due("17: of b", 256, () -> late.why(1, 1));
        Check.due("17: PLACE", 1, () -> late.why(0, 0));
        // b is not looked at without a digit, wherever it is
        stands("405c", "plus %1 -1;edit 0:2 0%1", "4040", 0);
        // a byte at b is looked at as it is when its left half is taken
        stands("40202012", "edit 0:4 3", "40f1f212", 1);
        NibbleEngine laid = fails("40202020", "edit 0:4 1", 4, 1);
        Check.due("17: the byte that was laid", 2, () -> laid.why(2, 0));
        Check.due("17: what it held when it was looked at", 15, () -> laid.why(2, 2));
        Check.due("17: its left HALF", 0, () -> laid.why(2, 1));
    }

    private static void marked(String pattern, String source, int due) {
        int length = pattern.length() / 2;
        NibbleEngine x = Check.told("at 9 #" + pattern + source + ";load %1 77;mark 9:" + length + " " + (9 + length) + ";");
        x.steps(2);
        Check.due("17: mark " + pattern + " " + source, due, () -> x.register(1));
    }

    private static void marks() {
        marked("4020204b2020", "0123", 11);
        marked("4020204b2020", "1123", 10);
        marked("40202220", "12", 12);
        marked("402020", "00", 77);
        marked("402120", "05", 77);
        marked("402120", "50", 10);
        marked("402020", "1cf1", 77);
        marked("40202020", "1c02", 12);
        marked("40202020", "1c20", 11);
        stands("4020204b2020" + "0123", "mark 0:6 6", "4040f14bf2f3" + "0123", 1);
        stands("402060" + "5c", "mark 0:3 3", "40f540" + "5c", 2);
        NibbleEngine x = stands("4020" + "12", "edit 0:2 2", "40f1" + "12", 1);
        Check.due("17: 'edit' doesn't mark", 0, () -> x.register(1));
    }

    private static void registers() {
        NibbleEngine x = Check.told("dec %3 0;bin %4 0;load %2 5%2;plus %5 9999;plus %6 -9999;load %0 255%0;");
        x.set(3, Integer.MIN_VALUE);
        x.set(2, -7);
        x.set(5, Integer.MAX_VALUE);
        x.set(6, Integer.MIN_VALUE);
        x.set(0, Integer.MAX_VALUE);
        x.steps(6);
        Check.bytes("17: dec", "000002147483648d", x, 0);
        Check.due("17: bin", Integer.MIN_VALUE, () -> x.register(4));
        Check.due("17: load", -2, () -> x.register(2));
        Check.due("17: plus wraps", Integer.MIN_VALUE + 9998, () -> x.register(5));
        Check.due("17: plus wraps below", Integer.MAX_VALUE - 9998, () -> x.register(6));
        Check.due("17: load wraps", Integer.MIN_VALUE + 254, () -> x.register(0));
        Check.due("17: CC stays", 0, () -> x.count(3));
        Check.due("17: no FAULT", 0, () -> x.count(6));
        stands("ff".repeat(8), "dec %1 0", "000000000000000c", 0);
        stands("12", "test 0:1", "12", 1);
        stands("ac", "test 0:1", "ac", 2);
        stands("a2", "test 0:1", "a2", 3);
        stands("1c", "test 0:1", "1c", 0);
        stands("123456789f", "test 0:5", "123456789f", 0);
        stands("1234c6789f", "test 0:5", "1234c6789f", 2);
        stands("1234567890", "test 0:5", "1234567890", 1);
        fails("00", "test 250:7", 1, 0);
        NibbleEngine far = Check.told("test 5%1:1;");
        far.set(1, Integer.MAX_VALUE);
        far.steps(1);
        Check.due("17: an ADDRESS wraps", Integer.MIN_VALUE + 4, () -> far.why(1, 1));
        NibbleEngine near = Check.told("at 7 #1c;add 9%1:1 255%2:1;");
        near.set(1, -2);
        near.set(2, -248);
        near.steps(1);
        Check.bytes("17: an ADDRESS by its REGISTER", "2c", near, 7);
    }

    private static void ranges() {
        NibbleEngine x = Check.told("at 0 packed 2147483647 in 8;at 8 packed -2147483648 in 8;at 16 #000000000000000d;"
                + "bin %1 0;bin %2 8;bin %3 16;");
        x.set(3, 5);
        x.steps(3);
        Check.due("17: the most", Integer.MAX_VALUE, () -> x.register(1));
        Check.due("17: the least", Integer.MIN_VALUE, () -> x.register(2));
        Check.due("17: 0 below 0", 0, () -> x.register(3));
        fails("000002147483648c", "bin %1 0", 8, 0);
        fails("000002147483649d", "bin %1 0", 8, 0);
        fails("999999999999999c", "bin %1 0", 8, 0);
        fails("0000000000000000", "bin %1 0", 4, 0);
        fails("00", "bin %1 249", 1, 0);
        fails("00", "dec %1 249", 1, 0);
    }

    private static void branches() {
        String[] byCondition = {"1c", "12", "ac", "a2"};
        for (int cc = 0; cc < 4; cc++) {
            for (int n = 0; n < 16; n++) {
                NibbleEngine x = Check.told("at 0 #" + byCondition[cc] + ";test 0:1;on " + n + " a;halt;a:halt;");
                x.steps(2);
                int due = new int[] {n & 8, n & 4, n & 2, n & 1}[cc] != 0 ? 3 : 2;
                Check.due("17: on " + n + " by CC " + cc, due, () -> x.count(2));
            }
        }
        NibbleEngine x = Check.told("a:plus %2 1;count %1 a;halt;");
        x.set(1, 3);
        Check.due("17: three times", 7, () -> x.steps(50));
        Check.due("17: down to 0", 0, () -> x.register(1));
        Check.due("17: counted", 3, () -> x.register(2));
        NibbleEngine below = Check.told("a:count %1 a;halt;");
        below.steps(5);
        Check.due("17: below 0 it goes on", -5, () -> below.register(1));
        below.set(1, Integer.MIN_VALUE);
        below.steps(1);
        Check.due("17: it wraps", Integer.MAX_VALUE, () -> below.register(1));
        NibbleEngine behind = Check.told("on 15 a;halt;a:plus %1 1;");
        Check.due("17: on to the last one", 2, () -> behind.steps(50));
        Check.due("17: behind the last one", 3, () -> behind.count(2));
    }

    private static void backs() {
        NibbleEngine none = Check.told("back;plus %1 1;halt;");
        none.steps(2);
        Check.due("17: 'back' without OLD goes on", 1, () -> none.register(1));
        NibbleEngine x = Check.told("guard 1 g;test 250:7;halt;g:back;");
        x.steps(2);
        Check.due("17: OLD", 1, () -> x.count(4));
        x.steps(1);
        Check.due("17: behind OLD", 2, () -> x.count(2));
        Check.due("17: OLD stays", 1, () -> x.count(4));
        x.steps(1);
        Check.due("17: HALTED", 1, () -> x.count(1));
        x.next(3);
        x.steps(1);
        Check.due("17: once more", 2, () -> x.count(2));
        NibbleEngine last = Check.told("on 15 a;g:back;a:guard 1 g;test 250:7;");
        Check.due("17: 'back' behind the last one", 4, () -> last.steps(50));
        Check.due("17: none is NEXT", 4, () -> last.count(2));
        Check.due("17: HALTED then", 1, () -> last.count(1));
    }

    private static void guards() {
        String[] operations = {"test 250:7", "mul 0:1 1:1", "add 0:2 1:2", "add 20:1 0:1", "mul 2:3 0:1", "add 0:1 0:1",
            "div 2:3 5:1", "bin %1 8"};
        for (int kind = 1; kind <= 8; kind++) {
            String text = "at 0 #9c1c10000c0c;at 8 packed 2147483648 in 8;guard " + kind + " g;"
                    + operations[kind - 1] + ";halt;g:plus %7 1;back;";
            NibbleEngine x = Check.told(text);
            int due = kind;
            String before = Check.bytes(x, 0, 16);
            x.steps(2);
            Check.due("17: a FAULT of kind " + kind, due, () -> x.why(0, 0));
            Check.due("17: NEXT is the GUARD's " + kind, 3, () -> x.count(2));
            Check.due("17: OLD had it " + kind, 1, () -> x.count(4));
            Check.due("17: it RUNS " + kind, 0, () -> x.count(1));
            Check.due("17: TIME " + kind, 2, () -> x.count(0));
            if (kind != 6) {
                Check.bytes("17: nothing is done " + kind, before, x, 0);
            }
            x.steps(50);
            Check.due("17: and back " + kind, 3, () -> x.count(2));
            Check.due("17: HALTED " + kind, 1, () -> x.count(1));
            NibbleEngine other = Check.told(text.replace("guard " + kind, "guard " + (kind % 8 + 1)));
            other.steps(50);
            Check.due("17: another kind isn't GUARDED " + kind, due == 6 ? 1 : 2, () -> other.count(1));
        }
        NibbleEngine self = Check.told("guard 1 g;g:test 250:7;");
        Check.due("17: a GUARD with the FAULT itself", 50, () -> self.steps(50));
        Check.due("17: so many FAULTS", 49, () -> self.count(6));
    }

    /** The first in the order of kinds, of the first operand ahead. */
    private static void order() {
        fails("00", "mul 255:2 255:3", 1, 0);
        fails("00", "mul 0:2 255:3", 1, 1);
        fails("00", "mul 0:2 1:2", 2, 1);
        fails("0000", "add 0:2 1:2", 3, 1);
        fails("0000", "sub 0:1 1:1", 4, 0);
        fails("1111", "mul 0:3 3:1", 4, 0);
        fails("11000c" + "00", "mul 0:3 3:1", 4, 1);
        fails("0010cc" + "00", "div 0:3 3:1", 4, 0);
        fails("00100c" + "00", "div 0:3 3:1", 4, 1);
        fails("00", "edit 255:2 254", 1, 0);
        fails("4020" + "ff", "edit 0:2 2", 4, 1);
    }
}
