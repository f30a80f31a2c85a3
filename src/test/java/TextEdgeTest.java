/** Each sentence of the Terms, 1, that names an edge: the STORE, and the TEXT that tells a PROGRAM. */
public final class TextEdgeTest {
    private static final String TERMS = "Terms 1";
    private static final String[] QUOTED = {"at", "packed", "zoned", "in", "pack", "unpack", "offset", "move", "add",
        "sub", "compare", "mul", "div", "copy", "digits", "zones", "edit", "mark", "shift", "test", "bin", "dec",
        "load", "plus", "count", "on", "guard", "back", "halt"};
    private static final String[] FIELDS = {"pack", "unpack", "offset", "move", "add", "sub", "compare", "mul", "div"};
    private static final String[] LONG = {"copy", "digits", "zones", "edit", "mark"};

    public static void main(String[] args) {
        store();
        textLength();
        forms();
        words();
        numbers();
        hexes();
        signs();
        blanks();
        noLines();
        places();
        registers();
        lengths();
        longLengths();
        smallNumbers();
        names();
        targets();
        layings();
        laidDigits();
        firstAlong();
        misplaced();
        endsTooSoon();
        notAsTold();
        longWords();
        wrongHexes();
        room();
        tooMany();
        twice();
        unknown();
        quotedNames();
        Edge.end("TextEdgeTest");
    }

    private static String times(String piece, int many) {
        StringBuilder row = new StringBuilder();
        for (int i = 0; i < many; i++) {
            row.append(piece);
        }
        return row.toString();
    }

    private static void store() {
        Edge.says(TERMS, "bytes (0 to 255) at PLACES 0 to 255, 0 first");
        NibbleEngine x = new NibbleEngine();
        for (int place : new int[] {0, 1, 254, 255}) {
            Edge.due("0 first at " + place, 0, () -> x.at(place));
            Edge.due("254 at " + place, 0, () -> x.lay(place, 254));
            Edge.due("255 at " + place, 254, () -> x.lay(place, 255));
            Edge.due("no 256 at " + place, -1, () -> x.lay(place, 256));
            Edge.due("255 stays at " + place, 255, () -> x.at(place));
            Edge.due("0 at " + place, 255, () -> x.lay(place, 0));
            Edge.due("nothing below 0 at " + place, -1, () -> x.lay(place, -1));
            Edge.due("0 stays at " + place, 0, () -> x.at(place));
        }
        Edge.none("no PLACE -1", () -> x.at(-1));
        Edge.none("no PLACE 256", () -> x.at(256));
        NibbleEngine laid = Edge.good("at 0 #00ff;at 254 #fe01;");
        Edge.bytes("the first ones", "00ff00", laid, 0);
        Edge.bytes("the last ones", "00fe01", laid, 253);

        Edge.says(TERMS, "REGISTERS 0 to 7 (ints that wrap, 0 first)");
        NibbleEngine y = Edge.good("plus %0 1;plus %7 -1;plus %0 -1;plus %7 1;");
        for (int which : new int[] {0, 6, 7}) {
            Edge.due("0 first in " + which, 0, () -> y.register(which));
        }
        Edge.none("no REGISTER -1", () -> y.register(-1));
        Edge.none("no REGISTER 8", () -> y.register(8));
        y.set(0, Integer.MAX_VALUE);
        y.set(7, Integer.MIN_VALUE);
        y.steps(2);
        Edge.due("the most and 1", Integer.MIN_VALUE, () -> y.register(0));
        Edge.due("the least less 1", Integer.MAX_VALUE, () -> y.register(7));
        y.steps(2);
        Edge.due("and back, from the least", Integer.MAX_VALUE, () -> y.register(0));
        Edge.due("and back, from the most", Integer.MIN_VALUE, () -> y.register(7));

        Edge.says(TERMS, "CC (0 to 3, 0 first)");
        NibbleEngine cc = Edge.good("at 0 #1ca212ac;test 1:1;test 0:1;test 2:1;test 3:1;");
        int[] due = {0, 3, 0, 1, 2};
        for (int i = 0; i < due.length; i++) {
            Edge.due("behind " + i, due[i], () -> cc.count(3));
            cc.steps(1);
        }

        Edge.says(TERMS, "INSTRUCTIONS 0, 1 .. (at most 60)");
        for (int many : new int[] {0, 1, 59, 60}) {
            NibbleEngine some = Edge.good(times("back;", many));
            Edge.due("so many", many, () -> some.count(5));
            Edge.none("none behind " + many, () -> some.done(many));
            if (many > 0) {
                Edge.due("the last one is " + (many - 1), 0, () -> some.done(many - 1));
            }
        }
        Edge.fault(times("back;", 61), 2, 300);
    }

    private static void textLength() {
        Edge.says(TERMS, "A TEXT of at most 700 bytes tells it.");
        for (int many : new int[] {699, 700}) {
            String text = times(" ", many - 5) + "halt;";
            NibbleEngine x = Edge.good(text);
            Edge.due(many + " bytes", 1, () -> x.count(5));
            Edge.fault(times(" ", many - 4) + "halt", 1, many);
            Edge.fault(times(" ", many - 1) + "?", 1, many - 1);
        }
        // a TOKEN that ends with the 700th byte is a whole one
        Edge.fault(times(" ", 688) + "guard 1 halt", 1, 696);
        Edge.fault(times(" ", 688) + "guard 1 qqqq", 1, 700);
        Edge.fault(times(" ", 695) + "at 25", 1, 700);
        Edge.fault(times(" ", 694) + "at 256", 2, 697);
        Edge.fault(times(" ", 693) + "at 0 #0", 2, 698);
        NibbleEngine beyond = new NibbleEngine();
        Check.feed(beyond, times(" ", 700) + "halt;");
        Edge.due("what doesn't come", 700, () -> beyond.count(11));
        Edge.illegal("no 701 bytes", () -> beyond.program(701));
        Edge.due("700 blanks", 0, () -> beyond.program(700));
        Edge.due("nothing is told", 0, () -> beyond.count(5));
    }

    /** Each form without what may be left out: a TOKEN less, or one twice, is told where the next one can't stand. */
    private static void forms() {
        Edge.says(TERMS, "LINE: ('at' PLACE (HEX | ('packed' | 'zoned') ['-'] DIGITS 'in' LENGTH) | [NAME ':'] "
                + "INSTRUCTION) ';'.");
        for (String form : new String[] {"at 0 #00 ;", "at 0 packed 1 in 1 ;", "at 0 zoned 1 in 1 ;", "a : halt ;"}) {
            spoiltForms(form);
        }
        spoiltForms("at 0 packed - 1 in 1 ;", 3);
        spoiltForms("at 0 zoned - 1 in 1 ;", 3);

        Edge.says(TERMS, "INSTRUCTION: ('pack' | 'unpack' | 'offset' | 'move' | 'add' | 'sub' | 'compare' | 'mul' | "
                + "'div') FIELD FIELD | ('copy' | 'digits' | 'zones' | 'edit' | 'mark') FIELD ADDRESS | 'shift' "
                + "FIELD ['-'] NUMBER NUMBER | 'test' FIELD | ('bin' | 'dec' | 'load') REGISTER ADDRESS | 'plus' "
                + "REGISTER ['-'] NUMBER | 'count' REGISTER NAME | 'on' NUMBER NAME | 'guard' NUMBER [NAME] | 'back' "
                + "| 'halt'. FIELD: ADDRESS ':' LENGTH. ADDRESS: PLACE [REGISTER].");
        for (String word : FIELDS) {
            spoiltForms(word + " 0 : 1 2 : 3 ;");
        }
        for (String word : LONG) {
            spoiltForms(word + " 0 : 1 2 ;");
        }
        for (String word : new String[] {"bin", "dec", "load"}) {
            spoiltForms(word + " % 1 2 ;");
        }
        for (String form : new String[] {"shift 0 : 1 2 3 ;", "test 0 : 1 ;", "plus % 1 2 ;", "a : count % 1 a ;", "a : on 1 a ;", "guard 1 ;",
            "back ;", "halt ;"}) {
            spoiltForms(form);
        }
        // what may be left out can't stand twice, and stands where it is told
        spoiltForms("test 0 % 1 : 2 ;", 3);
        spoiltForms("copy 0 : 1 2 % 3 ;", 4);
        spoiltForms("shift 0 : 1 - 2 3 ;", 4);
        spoiltForms("plus % 1 - 2 ;", 3);
        spoiltForms("a : guard 1 a ;", 4);
    }

    private static void spoiltForms(String form) {
        spoiltForms(form, 0);
    }

    /** TOKENS from one on are left out, and told twice. */
    private static void spoiltForms(String form, int from) {
        Edge.good(form);
        String[] tokens = form.split(" ");
        for (int i = from; i < tokens.length; i++) {
            String[] less = new String[tokens.length - 1];
            String[] more = new String[tokens.length + 1];
            System.arraycopy(tokens, 0, less, 0, i);
            System.arraycopy(tokens, i + 1, less, i, tokens.length - i - 1);
            System.arraycopy(tokens, 0, more, 0, i + 1);
            System.arraycopy(tokens, i, more, i + 1, tokens.length - i);
            if (from == 0) {
                firstUnlike(tokens, less);
                endsBy(tokens, i);
            }
            firstUnlike(tokens, more);
        }
    }

    /** A ';' stands where a TOKEN must. */
    private static void endsBy(String[] tokens, int end) {
        if (end < tokens.length - 1) {
            StringBuilder text = new StringBuilder();
            for (int i = 0; i < end; i++) {
                text.append(tokens[i]).append(' ');
            }
            int place = text.length();
            Edge.fault(text.append("; halt ;").toString(), 1, place);
        }
    }

    /** The first TOKEN that is of another kind than the one that is told, be it the end, is the FAULT. */
    private static void firstUnlike(String[] told, String[] given) {
        int place = 0;
        int same = 0;
        while (same < given.length && same < told.length && kind(told[same]).equals(kind(given[same]))) {
            place += given[same].length() + 1;
            same++;
        }
        String text = String.join(" ", given);
        Edge.fault(text, 1, Math.min(place, text.length()));
    }

    private static String kind(String token) {
        boolean name = token.equals("a");
        return token.matches("[0-9]+") ? "NUMBER" : name ? "NAME" : token;
    }

    private static void words() {
        Edge.says(TERMS, "words (a .. z, the longest row)");
        Edge.good("az:halt;");
        Edge.good("za:halt;on 15 za;");
        Edge.fault("`:halt;", 1, 0);
        Edge.fault("{:halt;", 1, 0);
        Edge.fault("a`:halt;", 1, 1);
        Edge.fault("z{:halt;", 1, 1);
        Edge.fault("A:halt;", 1, 0);
        Edge.fault("Z:halt;", 1, 0);
        Edge.fault("halT;", 1, 3);
        // a longer row is another word
        Edge.fault("halts;", 1, 5);
        Edge.fault("haltback;", 1, 8);
        Edge.fault("backhalt:backhalt;", 1, 9);
        Edge.good("halts:halt;");
        Edge.good("a:on 15a;");
        Edge.fault("a:on 15 aa;", 3, 8);
    }

    private static void numbers() {
        Edge.says(TERMS, "NUMBERS (digits, the longest row)");
        NibbleEngine x = Edge.good("plus %1 0;plus %2 9;plus %3 90;plus %4 1009;");
        x.steps(4);
        Edge.due("0", 0, () -> x.register(1));
        Edge.due("9", 9, () -> x.register(2));
        Edge.due("90", 90, () -> x.register(3));
        Edge.due("1009", 1009, () -> x.register(4));
        Edge.fault("plus %1 /;", 1, 8);
        Edge.fault("plus %1 5/;", 1, 9);
        Edge.fault("plus %1 5:;", 1, 9);
        Edge.fault("plus %12;", 2, 6);
        Edge.fault("plus %1 2 3;", 1, 10);
        Edge.fault("test 1 5:1;", 1, 7);
        Edge.good("shift 0:1 3 1;");
        Edge.fault("shift 0:1 31;", 1, 12);
    }

    private static void hexes() {
        Edge.says(TERMS, "HEXES ('#' and the longest row of 0 .. 9, a .. f right behind it)");
        NibbleEngine x = Edge.good("at 0 #09af;at 2 #90fa;");
        Edge.bytes("each sign", "09af90fa", x, 0);
        Edge.fault("at 0 #00g;", 1, 8);
        Edge.fault("at 0 #00`;", 1, 8);
        Edge.fault("at 0 #00/;", 1, 8);
        Edge.fault("at 0 #00:;", 1, 8);
        Edge.fault("at 0 #00A;", 1, 8);
        Edge.fault("at 0 #00F;", 1, 8);
        Edge.fault("at 0 #00 00;", 1, 9);
        Edge.fault("at 0 #00#00;", 1, 8);
        Edge.fault("at 0 # 00;", 1, 5);
        Edge.fault("at 0 #\n00;", 1, 5);
        Edge.fault("at 0 #g0;", 1, 5);
        // 'add' and 'dec' begin with signs of a HEX, 'halt' doesn't
        Edge.fault("at 0 #12add;", 2, 5);
        Edge.fault("at 0 #12dec;", 2, 5);
        Edge.fault("at 0 #12halt;", 1, 8);
    }

    private static void signs() {
        Edge.says(TERMS, "signs ; : % -");
        NibbleEngine x = Edge.good("a:test 0%1:1;plus %1-1;");
        Edge.due("each of them", 2, () -> x.count(5));
        String none = "<9$&,./!\"'()*+=>?@[\\]^_`{|}~";
        for (int i = 0; i < none.length(); i++) {
            Edge.fault("halt" + none.charAt(i), 1, 4);
        }
        for (int sign : new int[] {0, 1, 127, 128, 187, 255}) {
            Edge.fault("halt;" + (char) sign, 1, 5);
        }
        Edge.fault("halt:", 1, 4);
        Edge.fault("halt%", 1, 4);
        Edge.fault("halt-", 1, 4);
        Edge.fault("a;halt;", 1, 1);
        Edge.fault("a%halt;", 1, 1);
        Edge.fault("a-halt;", 1, 1);
        Edge.fault("test 0-1;", 1, 6);
        Edge.fault("test 0;1;", 1, 6);
        Edge.fault("plus :1 1;", 1, 5);
    }

    private static void blanks() {
        Edge.says(TERMS, "blanks (32, 10) between them count for nothing");
        NibbleEngine x = Edge.good("  \n a \n : \n test \n 0 % 1 : 1 \n ; at\n9#ab\n;\n\n ");
        Edge.due("one INSTRUCTION", 1, () -> x.count(5));
        Edge.due("what is laid", 0xab, () -> x.at(9));
        Edge.good("a:test 0%1:1;at 9#ab;");
        for (int sign : new int[] {9, 11, 12, 13, 31, 33, 160}) {
            Edge.fault("halt" + (char) sign + ";", 1, 4);
            Edge.fault((char) sign + "halt;", 1, 0);
        }
        // between TOKENS, not within one
        Edge.fault("ha lt;", 1, 3);
        Edge.fault("plus %1 1 0;", 1, 10);
        Edge.fault("at 0 #1 2;", 2, 5);
    }

    private static void noLines() {
        Edge.says(TERMS, "* any number of times");
        for (String text : new String[] {"", " ", "\n", " \n\n  "}) {
            NibbleEngine x = Edge.good(text);
            Edge.due("no INSTRUCTION", 0, () -> x.count(5));
            Edge.due("it is HALTED", 1, () -> x.count(1));
        }
        Edge.good("halt;");
        Edge.good("halt;at 0 #00;halt;");
        Edge.good("at 0 #00;");

        Edge.says(TERMS, "[ ] perhaps");
        Edge.good("a:halt;");
        Edge.good("guard 1;");
        Edge.good("a:guard 1 a;");
        Edge.good("test 0:1;");
        Edge.good("test 0%0:1;");
        Edge.good("plus %1 1;");
        Edge.good("plus %1 -1;");
        Edge.good("shift 0:1 1 1;");
        Edge.good("shift 0:1 -1 1;");
        Edge.good("at 0 packed 1 in 1;");
        Edge.good("at 0 packed -1 in 1;");
        Edge.fault("a:a:halt;", 1, 2);
        Edge.fault("a:guard 1 a a;", 1, 12);
        Edge.fault("test 0%0%0:1;", 1, 8);
        Edge.fault("plus %1 --1;", 1, 9);
        Edge.fault("shift 0:1 --1 1;", 1, 11);
        Edge.fault("at 0 zoned --1 in 1;", 1, 12);
    }

    private static void place(String ahead, String behind) {
        Edge.good(ahead + "0" + behind);
        Edge.good(ahead + "255" + behind);
        Edge.fault(ahead + "256" + behind, 2, ahead.length());
        Edge.fault(ahead + "-1" + behind, 1, ahead.length());
    }

    private static void places() {
        Edge.says(TERMS, "PLACE (0 to 255)");
        place("at ", " #00;");
        place("at ", " packed 1 in 1;");
        place("at ", " zoned 1 in 1;");
        for (String word : FIELDS) {
            place(word + " ", ":1 0:1;");
            place(word + " 0:1 ", ":1;");
            place(word + " ", "%1:1 0:1;");
            place(word + " 0:1 ", "%1:1;");
        }
        for (String word : LONG) {
            place(word + " ", ":1 0;");
            place(word + " 0:1 ", ";");
            place(word + " 0:1 ", "%7;");
        }
        place("shift ", ":1 0 0;");
        place("test ", ":1;");
        place("bin %0 ", ";");
        place("dec %0 ", "%1;");
        place("load %0 ", ";");
    }

    private static void register(String ahead, String behind) {
        Edge.good(ahead + "0" + behind);
        Edge.good(ahead + "7" + behind);
        Edge.fault(ahead + "8" + behind, 2, ahead.length());
        Edge.fault(ahead + "-1" + behind, 1, ahead.length());
    }

    private static void registers() {
        Edge.says(TERMS, "REGISTER: '%' NUMBER (0 to 7)");
        for (String word : FIELDS) {
            register(word + " 0%", ":1 0:1;");
            register(word + " 0:1 0%", ":1;");
        }
        for (String word : LONG) {
            register(word + " 0%", ":1 0;");
            register(word + " 0:1 0%", ";");
        }
        register("shift 0%", ":1 0 0;");
        register("test 0%", ":1;");
        for (String word : new String[] {"bin", "dec", "load"}) {
            register(word + " %", " 0;");
            register(word + " %0 0%", ";");
        }
        register("plus %", " 1;");
        register("a:count %", " a;");
    }

    private static void number(String ahead, String behind, int least, int most) {
        Edge.good(ahead + least + behind);
        Edge.good(ahead + (least + 1) + behind);
        Edge.good(ahead + (most - 1) + behind);
        Edge.good(ahead + most + behind);
        Edge.fault(ahead + (most + 1) + behind, 2, ahead.length());
        if (least > 0) {
            Edge.fault(ahead + (least - 1) + behind, 2, ahead.length());
        }
    }

    private static void lengths() {
        Edge.says(TERMS, "LENGTH is 1 to 16");
        for (String word : FIELDS) {
            number(word + " 0:", " 0:1;", 1, 16);
            number(word + " 0:1 0:", ";", 1, 16);
        }
        number("shift 0:", " 0 0;", 1, 16);
        number("test 0:", ";", 1, 16);
        number("at 0 packed 1 in ", ";", 1, 16);
        number("at 0 zoned 1 in ", ";", 1, 16);
    }

    private static void longLengths() {
        Edge.says(TERMS, "of 'copy', 'digits', 'zones', 'edit', 'mark' 1 to 64");
        for (String word : LONG) {
            number(word + " 0:", " 0;", 1, 64);
        }
    }

    private static void smallNumbers() {
        Edge.says(TERMS, "of 'shift' the first NUMBER is 0 to 31 (behind '-' 0 to 32), the other one 0 to 9");
        number("shift 0:1 ", " 0;", 0, 31);
        number("shift 0:1 -", " 0;", 0, 32);
        number("shift 0:1 0 ", ";", 0, 9);
        number("shift 0:1 -32 ", ";", 0, 9);
        Edge.fault("shift 0:1 0 -1;", 1, 12);

        Edge.says(TERMS, "of 'plus' 0 to 9999");
        number("plus %1 ", ";", 0, 9999);
        number("plus %1 -", ";", 0, 9999);

        Edge.says(TERMS, "of 'on' 0 to 15");
        number("a:on ", " a;", 0, 15);
        Edge.fault("a:on -1 a;", 1, 5);

        Edge.says(TERMS, "of 'guard' 1 to 8");
        number("a:guard ", " a;", 1, 8);
        number("guard ", ";", 1, 8);
    }

    private static void names() {
        Edge.says(TERMS, "A NAME is a word of at most 8 letters that is none of those in quotes.");
        for (String name : new String[] {"a", "z", "ab", "abcdefg", "abcdefgh", "zzzzzzzz"}) {
            Edge.good(name + ":on 15 " + name + ";");
            Edge.good(name + ":count %1 " + name + ";");
            Edge.good(name + ":guard 1 " + name + ";");
        }
        Edge.fault("abcdefghi:halt;", 2, 0);
        Edge.fault("zzzzzzzzz:halt;", 2, 0);
        Edge.fault("on 15 abcdefghi;", 2, 6);
        Edge.fault("count %1 abcdefghi;", 2, 9);
        Edge.fault("guard 1 abcdefghi;", 2, 8);
        for (String word : QUOTED) {
            Edge.fault("on 15 " + word + ";", 1, 6);
            if (word.length() < 8) {
                Edge.good(word + "x:on 15 " + word + "x;");
                Edge.good("x" + word + ":on 15 x" + word + ";");
            }
            String shorter = word.substring(0, word.length() - 1);
            Edge.good(shorter + ":on 15 " + shorter + ";");
        }
        // each letter of a NAME counts
        Edge.good("abcdefgh:halt;abcdefgi:halt;bbcdefgh:halt;abcdefg:halt;bcdefgh:halt;on 15 abcdefgh;");
        Edge.fault("abcdefgh:halt;on 15 abcdefgi;", 3, 20);
        Edge.fault("zzzzzzzz:halt;on 15 zzzzzzzy;", 3, 20);
        Edge.fault("aaaaaaaa:halt;on 15 baaaaaaa;", 3, 20);
        Edge.fault("aa:halt;on 15 a;", 3, 14);
    }

    private static void targets() {
        Edge.says(TERMS, "It stands for the INSTRUCTION that it stands ahead of.");
        NibbleEngine first = Edge.good("a:back;" + times("back;", 58) + "on 15 a;");
        first.next(59);
        first.steps(1);
        Edge.due("the first one", 0, () -> first.count(2));
        NibbleEngine last = Edge.good("on 15 z;" + times("back;", 58) + "z:back;");
        last.steps(1);
        Edge.due("the 60th one", 59, () -> last.count(2));
        NibbleEngine itself = Edge.good("back;a:on 15 a;");
        itself.next(1);
        itself.steps(1);
        Edge.due("itself", 1, () -> itself.count(2));
        NibbleEngine laid = Edge.good("on 15 a;back;at 0 #00;a:\nback;");
        laid.steps(1);
        Edge.due("what is laid is no INSTRUCTION", 2, () -> laid.count(2));
    }

    private static void layings() {
        Edge.says(TERMS, "'at' lays bytes from a PLACE on, one line after the other");
        NibbleEngine x = Edge.good("at 0 #112233;at 1 #44;at 254 #5566;at 255 #77;at 253 zoned 8 in 2;");
        Edge.bytes("the later line stays", "11443300", x, 0);
        Edge.bytes("to the end of the STORE", "00f0c877", x, 252);
        NibbleEngine behind = Edge.good("halt;at 7 #01;a:halt;at 7 #02;");
        Edge.due("between INSTRUCTIONS, too", 2, () -> behind.at(7));

        Edge.says(TERMS, "those of a HEX (two signs a byte)");
        NibbleEngine one = Edge.good("at 9 #5a;");
        Edge.bytes("one byte", "005a00", one, 8);
        NibbleEngine all = Edge.good("at 0 #" + times("5a", 256) + ";");
        Edge.due("the first of all", 0x5a, () -> all.at(0));
        Edge.due("the last of all", 0x5a, () -> all.at(255));
    }

    private static void laidDigits() {
        Edge.says(TERMS, "or DIGITS as PACKED, or ZONED, in LENGTH bytes (0 ahead of them), the sign D behind '-', "
                + "else C");
        NibbleEngine x = Edge.good("at 0 #ffffffff;at 0 packed 9 in 1;at 1 packed -9 in 1;at 2 packed 9 in 2;"
                + "at 4 #ffffffff;at 4 zoned 9 in 1;at 5 zoned -9 in 1;at 6 zoned -9 in 2;");
        Edge.bytes("PACKED", "9c9d009c", x, 0);
        Edge.bytes("ZONED", "c9d9f0d9", x, 4);
        Edge.bytes("nothing behind it", "00", x, 8);
        NibbleEngine y = Edge.good("at 0 packed -0 in 1;at 1 zoned -0 in 1;at 2 packed 0 in 1;at 3 zoned 0 in 1;"
                + "at 16 packed -1234567890123456789012345678901 in 16;at 32 packed 1 in 16;"
                + "at 48 zoned -1234567890123456 in 16;at 64 zoned 1 in 16;");
        Edge.bytes("0, and less 0", "0dd00cc0", y, 0);
        Edge.bytes("31 digits", "1234567890123456789012345678901d", y, 16);
        Edge.bytes("1 in 16", "0000000000000000000000000000001c", y, 32);
        Edge.bytes("16 digits", "f1f2f3f4f5f6f7f8f9f0f1f2f3f4f5d6", y, 48);
        Edge.bytes("1 in 16, ZONED", "f0f0f0f0f0f0f0f0f0f0f0f0f0f0f0c1", y, 64);
    }

    private static void firstAlong() {
        Edge.says(TERMS, "FAULTS of a TEXT, the first along it, at a TOKEN's first byte, of one TOKEN the least");
        Edge.fault("at 0 #0;?", 2, 5);
        Edge.fault("at 0 #00;at 256 #0;a:halt;a:halt;", 2, 12);
        Edge.fault("a:halt;a:halt;at 256", 4, 7);
        Edge.fault("  plus   %1   10000;", 2, 14);
        Edge.fault("\n\nhalt\n\n:", 1, 8);
        Edge.fault("halt;  abcdefghijk:halt;", 2, 7);
        Edge.fault("at 255  #0000;", 2, 8);
        // what can't stand there is a 1, be it too much or not
        Edge.fault("halt 999999;", 1, 5);
        Edge.fault("halt #000;", 1, 5);
        Edge.fault("halt abcdefghijk;", 1, 5);
        Edge.fault("plus abcdefghijk;", 1, 5);
        Edge.fault("a:abcdefghijk;", 1, 2);
        Edge.fault("at 0 packed 1 300;", 1, 14);
        Edge.fault("a:halt;on 15 7;a:halt;", 1, 13);
    }

    private static void misplaced() {
        Edge.says(TERMS, "1 a TOKEN that can't stand there, or is none ('#' alone is none");
        Edge.fault("at 0 #;", 1, 5);
        Edge.fault("at 0 #", 1, 5);
        Edge.fault("at 0 ##00;", 1, 5);
        Edge.fault("#;", 1, 0);
        Edge.fault("#00;", 1, 0);
        Edge.fault("0;", 1, 0);
        Edge.fault(":", 1, 0);
        Edge.fault("%", 1, 0);
        Edge.fault("-", 1, 0);
        Edge.fault(";", 1, 0);
        for (String word : QUOTED) {
            // behind 'halt' only ';' can stand
            Edge.fault("halt " + word + ";", 1, 5);
        }
        Edge.fault("at 0 packed #12 in 2;", 1, 12);
        Edge.fault("at 0 #12 in 2;", 1, 9);
        Edge.fault("at 0 - #12;", 1, 5);
        Edge.fault("copy 0:1 0:1;", 1, 10);
        Edge.fault("add 0:1 0;", 1, 9);
        Edge.fault("bin %1 0:8;", 1, 8);
        Edge.fault("on %1 a;", 1, 3);
        Edge.fault("count 1 a;", 1, 6);
        Edge.fault("guard %1;", 1, 6);
    }

    /** All TEXTS that end ahead of their last TOKEN, blanks behind them or not. */
    private static void endsTooSoon() {
        Edge.says(TERMS, "the text's length where it ends too soon)");
        String[] texts = {"a : halt ;", "a : add 0 % 1 : 2 3 % 4 : 5 ;", "a : copy 0 % 1 : 2 3 % 4 ;",
            "at 0 packed - 12 in 3 ;", "at 0 #00 ;", "shift 0 : 1 - 2 3 ;", "load % 1 2 % 3 ;", "plus % 1 - 2 ;",
            "a : count % 1 a ;", "a : on 3 a ;", "a : guard 3 a ;"};
        for (String text : texts) {
            Edge.good(text);
            for (int end = text.indexOf(' '); end > 0; end = text.indexOf(' ', end + 1)) {
                String soon = text.substring(0, end);
                Edge.fault(soon, 1, end);
                Edge.fault(soon + " \n ", 1, end + 3);
            }
        }
        NibbleEngine x = new NibbleEngine();
        Check.feed(x, "halt;halt;");
        Edge.due("of the bytes that are told, whatever stands behind them", 1, () -> x.program(9));
        Edge.due("as many", 9, () -> x.fault());
    }

    private static void notAsTold() {
        Edge.says(TERMS, "2 one that can, but is too much: a NUMBER not as told");
        String[] far = {"256", "999", "1000000", "2147483647", "2147483648", "4294967295", "4294967296", "4294967297",
            "9223372036854775807", "9223372036854775808", "18446744073709551616", "18446744073709551617",
            "1" + times("0", 40), times("9", 600)};
        for (String number : far) {
            Edge.fault("at " + number + " #00;", 2, 3);
            Edge.fault("plus %" + number + " 1;", 2, 6);
            Edge.fault("test 0:" + number + ";", 2, 7);
        }
        NibbleEngine x = Edge.good("plus %0000000001 " + times("0", 500) + "9999;at 000255 #01;");
        x.steps(1);
        Edge.due("0 ahead of it counts for nothing", 9999, () -> x.register(1));
        Edge.due("of a PLACE, too", 1, () -> x.at(255));
        Edge.fault("test 0:000;", 2, 7);
        Edge.fault("guard 00;", 2, 6);
    }

    private static void longWords() {
        Edge.says(TERMS, "a word of 9 letters or more where a NAME can stand");
        for (int many : new int[] {9, 10, 16, 17, 600}) {
            String word = times("q", many);
            Edge.fault(word + ":halt;", 2, 0);
            Edge.fault(word, 2, 0);
            Edge.fault("halt;" + word + ";", 2, 5);
            Edge.fault("on 15 " + word + ";", 2, 6);
            Edge.fault("count %1 " + word + ";", 2, 9);
            Edge.fault("guard 8 " + word + ";", 2, 8);
            // where none can stand
            Edge.fault("at " + word, 1, 3);
            Edge.fault("a:" + word, 1, 2);
            Edge.fault("halt " + word, 1, 5);
            Edge.fault("at 0 packed 5 " + word, 1, 14);
        }
        Edge.good("qqqqqqqq:guard 8 qqqqqqqq;");
        // letters that would be alike if only some were kept
        Edge.fault("aaaaaaaa:halt;on 15 aaaaaaaaa;", 2, 20);
    }

    private static void wrongHexes() {
        Edge.says(TERMS, "an odd number of signs in a HEX");
        Edge.fault("at 0 #0;", 2, 5);
        Edge.good("at 0 #00;");
        Edge.fault("at 0 #000;", 2, 5);
        Edge.good("at 0 #0000;");
        Edge.fault("at 0 #" + times("0", 511) + ";", 2, 5);
        Edge.fault("at 255 #000;", 2, 7);

        Edge.says(TERMS, "a HEX that goes beyond PLACE 255");
        Edge.good("at 255 #00;");
        Edge.fault("at 255 #0000;", 2, 7);
        Edge.good("at 254 #0000;");
        Edge.fault("at 254 #000000;", 2, 7);
        Edge.good("at 0 #" + times("00", 256) + ";");
        Edge.fault("at 0 #" + times("00", 257) + ";", 2, 5);
        Edge.good("at 1 #" + times("00", 255) + ";");
        Edge.fault("at 1 #" + times("00", 256) + ";", 2, 5);
    }

    private static void room() {
        Edge.says(TERMS, "a LENGTH behind 'in' that does");
        for (String how : new String[] {"packed", "zoned"}) {
            int at = ("at 255 " + how + " 1 in ").length();
            Edge.good("at 255 " + how + " 1 in 1;");
            Edge.fault("at 255 " + how + " 1 in 2;", 2, at);
            Edge.good("at 254 " + how + " 1 in 2;");
            Edge.fault("at 254 " + how + " 1 in 3;", 2, at);
            Edge.good("at 240 " + how + " 1 in 16;");
            Edge.fault("at 241 " + how + " 1 in 16;", 2, at);
            Edge.good("at 241 " + how + " 1 in 15;");
        }

        Edge.says(TERMS, "or in which DIGITS have no room (all that are told, 0 ahead, too: of PACKED at most twice "
                + "LENGTH less 1, of ZONED LENGTH)");
        for (int length : new int[] {1, 2, 8, 15, 16}) {
            for (String digit : new String[] {"7", "0"}) {
                String packed = times(digit, 2 * length - 1);
                Edge.good("at 0 packed " + packed + " in " + length + ";");
                Edge.good("at 0 packed " + packed.substring(1) + "0 in " + length + ";");
                Edge.fault("at 0 packed " + digit + packed + " in " + length + ";", 2, 16 + 2 * length);
                Edge.fault("at 0 packed -0" + packed + " in " + length + ";", 2, 17 + 2 * length);
                String zoned = times(digit, length);
                Edge.good("at 0 zoned " + zoned + " in " + length + ";");
                Edge.fault("at 0 zoned " + digit + zoned + " in " + length + ";", 2, 16 + length);
                Edge.fault("at 0 zoned -0" + zoned + " in " + length + ";", 2, 17 + length);
            }
        }
        Edge.fault("at 0 packed " + times("0", 600) + " in 16;", 2, 616);
    }

    private static void tooMany() {
        Edge.says(TERMS, "the 61st INSTRUCTION (at its word)");
        String sixty = times("halt;", 60);
        Edge.good(sixty);
        Edge.good(sixty + "at 0 #00;");
        for (String word : QUOTED) {
            if (!word.equals("at") && !word.equals("packed") && !word.equals("zoned") && !word.equals("in")) {
                Edge.fault(sixty + word, 2, 300);
                Edge.fault(sixty + " a : " + word + " ?", 2, 305);
            }
        }
        Edge.fault(sixty + "packed;", 1, 300);
        Edge.fault(sixty + "a:at 0 #00;", 1, 302);
        Edge.fault(sixty + "a:b;", 1, 302);
        Edge.fault(times("back;", 59) + "a:back;a:back;", 4, 302);
    }

    private static void twice() {
        Edge.says(TERMS, "4 a NAME that an INSTRUCTION has already, where it stands ahead of one");
        Edge.fault("a:halt;a:halt;", 4, 7);
        Edge.fault("a:halt;b:halt;c:halt;b:halt;", 4, 21);
        Edge.fault("a:on 15 a;\n a\n:halt;", 4, 12);
        Edge.fault("abcdefgh:" + times("halt;", 59) + "abcdefgh:halt;", 4, 304);
        Edge.good("a:halt;aa:halt;b:halt;");
        // behind another word it may stand as often as one likes
        Edge.good("a:on 15 a;on 15 a;guard 1 a;count %1 a;");
        NibbleEngine x = new NibbleEngine();
        Check.program(x, "a:halt;a:halt;");
        Edge.due("a TEXT of another PROGRAM has its own NAMES", 0, () -> Check.program(x, "halt;a:halt;"));
        Edge.due("nor does it know others", 3, () -> Check.program(x, "b:halt;on 15 a;"));
    }

    private static void unknown() {
        Edge.says(TERMS, "3, if there is no other: a NAME behind 'count', 'on', 'guard' that no INSTRUCTION has (the "
                + "first one)");
        Edge.fault("count %1 a;", 3, 9);
        Edge.fault("on 15 a;", 3, 6);
        Edge.fault("guard 1 a;", 3, 8);
        Edge.fault("b:on 15 b;on 15 a;on 15 c;", 3, 16);
        Edge.fault("on 15 a;on 15 b;b:halt;", 3, 6);
        Edge.fault("on 15 a;at 0 #0;", 2, 13);
        Edge.fault("on 15 a;?", 1, 8);
        Edge.fault("on 15 a;b:halt;b:halt;", 4, 15);
        Edge.fault("on 15 a", 1, 7);
        Edge.good("on 15 a;a:halt;");
        Edge.good("a:on 15 a;");
        Edge.fault(times("halt;", 59) + "on 15 a;", 3, 301);
    }

    private static void quotedNames() {
        Edge.says(TERMS, "A word in quotes can't stand where a NAME must.");
        for (String word : QUOTED) {
            Edge.fault("count %1 " + word + ";", 1, 9);
            Edge.fault("on 1 " + word + ";", 1, 5);
            Edge.fault("guard 1 " + word + ";", 1, 8);
            // ahead of ':' none can stand, and as the line's first word some can't, either
            NibbleEngine x = new NibbleEngine();
            Edge.due("'" + word + "' is no NAME", 1, () -> Check.program(x, word + ":halt;"));
        }
        Edge.fault("packed:halt;", 1, 0);
        Edge.fault("zoned:halt;", 1, 0);
        Edge.fault("in:halt;", 1, 0);
        Edge.fault("at:halt;", 1, 2);
        Edge.fault("halt:halt;", 1, 4);
    }
}
