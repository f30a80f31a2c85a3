/** Each sentence of the Terms, 2, on what packs and moves HALVES and bytes: where B has no more, where both share bytes. */
public final class MoveEdgeTest {
    private static final String TERMS = "Terms 2";

    public static void main(String[] args) {
        packs();
        unpacks();
        offsets();
        copies();
        laidJustNow();
        Edge.end("MoveEdgeTest");
    }

    private static void packs() {
        Edge.says(TERMS, "'pack' A B (from a FIELD that should be ZONED): from the right: the last byte of A is that "
                + "of B with its HALVES changed about; then, byte by byte of A to the left, its right HALF is the "
                + "right HALF of the next byte of B to the left, its left HALF that of the one behind that (0, where "
                + "B has no more).");
        Bench.does("d4" + "aaaaaa", "pack 1:1 0:1", "d4" + "4daaaa", 3);
        Bench.does("d4" + "aaaaaa", "pack 1:3 0:1", "d4" + "00004d", 3);
        Bench.does("f3d4" + "aaaaaa", "pack 2:1 0:2", "f3d4" + "4daaaa", 3);
        Bench.does("f3d4" + "aaaaaa", "pack 2:2 0:2", "f3d4" + "034daa", 3);
        Bench.does("f3d4" + "aaaaaa", "pack 2:3 0:2", "f3d4" + "00034d", 3);
        Bench.does("f2f3d4" + "aaaaaa", "pack 3:2 0:3", "f2f3d4" + "234daa", 3);
        Bench.does("f2f3d4" + "aaaaaa", "pack 3:3 0:3", "f2f3d4" + "00234d", 3);
        Bench.does("f1f2f3d4" + "aaaaaa", "pack 4:2 0:4", "f1f2f3d4" + "234daa", 3);
        Bench.does("f1f2f3d4" + "aaaaaa", "pack 4:3 0:4", "f1f2f3d4" + "01234d", 3);
        // what stands left of B doesn't count
        Bench.does("f9f3d4" + "aaaaaa", "pack 3:3 1:2", "f9f3d4" + "00034d", 3);
        Bench.does("f9f2f3d4" + "aaaaaa", "pack 4:3 1:3", "f9f2f3d4" + "00234d", 3);
        // 16 bytes of 16 bytes
        String five = Bench.times("f5", 15);
        Bench.does(five + "d6" + Bench.times("aa", 16), "pack 16:16 0:16", five + "d6" + Bench.wide(Bench.times("5", 15) + "6d", 16), 3);
        // to the end of the STORE, and from its begin
        NibbleEngine x = Check.told("at 254 #f1d2;at 0 #f3c4;pack 255:1 254:2;pack 0:2 0:2;");
        x.steps(2);
        Edge.due("the last byte", 0x2d, () -> x.at(255));
        Edge.bytes("the first ones", "034c00", x, 0);
    }

    private static void unpacks() {
        Edge.says(TERMS, "'unpack': the last byte likewise; then byte by byte to the left, the left HALF is F, the "
                + "right one is the right HALF, then the left HALF of the next byte of B to the left, and so on (0, "
                + "where B has no more; a byte of B is looked at once, for both).");
        Bench.does("4d" + "aaaaaa", "unpack 1:1 0:1", "4d" + "d4aaaa", 3);
        Bench.does("4d" + "aaaaaa", "unpack 1:3 0:1", "4d" + "f0f0d4", 3);
        Bench.does("234d" + "aaaaaa", "unpack 2:1 0:2", "234d" + "d4aaaa", 3);
        Bench.does("234d" + "aaaaaa", "unpack 2:2 0:2", "234d" + "f3d4aa", 3);
        Bench.does("234d" + "aaaaaa", "unpack 2:3 0:2", "234d" + "f2f3d4", 3);
        Bench.does("234d" + "aaaaaaaa", "unpack 2:4 0:2", "234d" + "f0f2f3d4", 3);
        Bench.does("99234d" + "aaaaaaaa", "unpack 3:4 1:2", "99234d" + "f0f2f3d4", 3);
        Bench.does("123456" + "aaaaaaaaaaaa", "unpack 3:6 0:3", "123456" + "f0f1f2f3f465", 3);
        // a byte that is laid between its two HALVES, and one that is laid ahead of both
        Bench.does("12345678", "unpack 0:4 0:4", "f5f5f687", 3);
        Bench.does("0012345678", "unpack 1:4 1:4", "00f5f5f687", 3);
        Bench.does("0000123c", "unpack 0:4 2:2", "f0f1f2c3", 3);
        Bench.does("123c0000", "unpack 0:4 0:2", "f0f1f2c3", 3);
        NibbleEngine x = Check.told("at 254 #123c;unpack 254:2 254:2;unpack 0:1 255:1;");
        x.steps(2);
        Edge.bytes("the last ones", "f2c3", x, 254);
        Edge.bytes("the first one", "3c00", x, 0);
    }

    private static void offsets() {
        Edge.says(TERMS, "'offset': the last byte of A keeps its right HALF; to the left of that come the HALVES of B "
                + "from the right on (0, where B has no more), byte by byte of A from the right; of B a byte is "
                + "looked at, when its right HALF is laid.");
        Bench.does("12" + "abcd", "offset 1:1 0:1", "12" + "2bcd", 3);
        Bench.does("12" + "abcd", "offset 1:2 0:1", "12" + "012d", 3);
        Bench.does("12" + "aaabcd", "offset 1:3 0:1", "12" + "00012d", 3);
        Bench.does("1234" + "abcd", "offset 2:2 0:2", "1234" + "234d", 3);
        Bench.does("1234" + "abcd", "offset 2:1 0:2", "1234" + "4bcd", 3);
        Bench.does("1234" + "aaabcd", "offset 2:3 0:2", "1234" + "01234d", 3);
        Bench.does("991234" + "aaaaabcd", "offset 3:4 1:2", "991234" + "0001234d", 3);
        String all = Bench.times("12", 16);
        Bench.does(all + Bench.times("aa", 15) + "cd", "offset 16:16 0:16", all + Bench.times("21", 15) + "2d", 3);
        // looked at for both HALVES at once, and laid ahead of being looked at
        Bench.does("123c", "offset 0:2 0:2", "23cc", 3);
        Bench.does("12345c", "offset 1:2 0:2", "12234c", 3);
        Bench.does("12345c", "offset 0:2 1:2", "45c45c", 3);
        NibbleEngine x = Check.told("at 254 #123c;offset 255:1 254:1;");
        x.steps(1);
        Edge.bytes("the last byte", "122c", x, 254);
    }

    private static void copies() {
        Edge.says(TERMS, "'copy' A b: byte by byte from the left, as many of b on as A has. 'digits', 'zones': so, "
                + "too, but the right HALVES, the left ones alone.");
        Bench.does("12ab" + "99", "copy 0:1 1", "abab99", 3);
        Bench.does("12ab" + "99", "digits 0:1 1", "1bab99", 3);
        Bench.does("12ab" + "99", "zones 0:1 1", "a2ab99", 3);
        Bench.does("123456789a", "copy 0:2 3", "789a56789a", 3);
        Bench.does("123456789a", "digits 0:2 3", "183a56789a", 3);
        Bench.does("123456789a", "zones 0:2 3", "729456789a", 3);
        String[] words = {"copy", "digits", "zones"};
        int[] due = {0xab, 0x0b, 0xa0};
        for (int i = 0; i < words.length; i++) {
            NibbleEngine x = Check.told("at 0 #" + Bench.times("ab", 65) + ";" + words[i] + " 192:64 0;" + words[i] + " 100:63 0;");
            x.steps(2);
            Edge.due(words[i] + ": the first", due[i], () -> x.at(192));
            Edge.due(words[i] + ": the 64th", due[i], () -> x.at(255));
            Edge.due(words[i] + ": none ahead", 0, () -> x.at(191));
            Edge.due(words[i] + ": the 63rd", due[i], () -> x.at(162));
            Edge.due(words[i] + ": no 64th", 0, () -> x.at(163));
        }
    }

    private static void laidJustNow() {
        Edge.says(TERMS, "In all of these each byte is looked at as it is then, be it laid just now; both HALVES of a "
                + "byte of A are known ahead of its being laid; nothing is wrong in them.");
        Bench.does("12345678", "copy 1:3 0", "12121212", 3);
        Bench.does("12345678", "digits 1:3 0", "12325272", 3);
        Bench.does("12345678", "zones 1:3 0", "12141618", 3);
        Bench.does("12345678", "copy 0:3 1", "34567878", 3);
        Bench.does("12345678", "copy 0:4 0", "12345678", 3);
        // the byte of A is one of those that its own HALVES come from
        Bench.does("f1f2f3c4", "pack 0:4 0:4", "0001234c", 3);
        Bench.does("f1f2f3c4", "pack 0:3 0:4", "012c4cc4", 3);
        Bench.does("f1f2f3c4", "pack 1:3 0:4", "f101234c", 3);
        // neither digits nor SIGNS
        Bench.does("ffabcd" + "00", "pack 3:1 0:1", "ffabcdff", 3);
        Bench.does("ffabcd" + "0000", "pack 3:2 0:3", "ffabcdfbdc", 3);
        Bench.does("ffabcd" + "0000", "unpack 3:2 1:2", "ffabcdfbdc", 3);
        Bench.does("ffabcd" + "0000", "offset 3:2 0:2", "ffabcdfab0", 3);
        Bench.does("ffabcd" + "0000", "copy 3:2 0", "ffabcdffab", 3);
    }
}
