import java.util.NoSuchElementException;

/** A decimal processor told in words, foretold, undone and questioned, as DOC.md says. */
public final class NibbleEngine {
    public static final int NONE = -1;

    private static final int TAPE = 700;
    private static final int FED = 20;
    private static final int LATEST_TIME = 20000;
    private static final int ABOVE = 12;
    private static final int BELOW = 13;

    private final int[] tape = new int[TAPE];
    private int taped;
    private int faultPlace = NONE;
    /** What the next TEXT is read into, so that one with a FAULT leaves the PROGRAM as it is. */
    private Listing spare = new Listing();
    private final Parser parser = new Parser();
    private final Foresight foresight = new Foresight();
    private final Editing editing = new Editing();
    private final Decimal decimal = new Decimal();
    private final Decimal other = new Decimal();
    private final Decimal result = new Decimal();
    private final Desk desk = new Desk();
    private Desk image;
    private boolean imaged;

    public NibbleEngine() {
    }

    public int feed(int a, int b, int c, int d, int e) {
        if (taped > TAPE - FED) {
            return NONE;
        }
        append(a);
        append(b);
        append(c);
        append(d);
        append(e);
        return taped;
    }

    public int program(int n) throws IllegalArgumentException {
        if (n < 0 || n > taped) {
            throw new IllegalArgumentException("the tape has not so many bytes");
        }
        taped = 0;
        int kind = parser.parse(tape, n, spare);
        if (kind != 0) {
            faultPlace = parser.faultPlace();
            desk.refuse(Desk.TEXTS);
            return kind;
        }
        faultPlace = NONE;
        desk.renew(spare);
        spare = foresight.processor.exchange(spare);
        imaged = false;
        return 0;
    }

    public int fault() {
        return faultPlace;
    }

    public int count(int what) throws NoSuchElementException {
        Row now = desk.now;
        switch (what) {
            case 0: return now.cell(Row.TIME);
            case 1: return now.cell(Row.STATE);
            case 2: return now.cell(Row.NEXT);
            case 3: return now.cell(Row.CC);
            case 4: return now.cell(Row.OLD);
            case 5: return instructions();
            case 6: return now.cell(Row.FAULTS);
            case 7: return now.neverDone(instructions());
            case 8: return now.traced();
            case 9: return desk.kept();
            case 10: return desk.noted();
            case 11: return taped;
            case 12: return desk.refused(Desk.TEXTS);
            case 13: return desk.refused(Desk.ACTS);
            case 14: return desk.refused(Desk.NOTES);
            default: throw new NoSuchElementException("no such count");
        }
    }

    public int at(int place) throws NoSuchElementException {
        needPlace(place);
        return desk.now.cell(place);
    }

    public int register(int which) throws NoSuchElementException {
        needRegister(which);
        return desk.now.cell(Row.REGISTERS + which);
    }

    public int guard(int kind) throws NoSuchElementException {
        needKind(kind);
        return desk.now.cell(Row.GUARDS + kind - 1);
    }

    public int done(int instruction) throws NoSuchElementException {
        if (instruction < 0 || instruction >= instructions()) {
            throw new NoSuchElementException("no such instruction");
        }
        return desk.now.cell(Row.DONE + instruction);
    }

    public int trace(int i) throws NoSuchElementException {
        if (i < 0 || i >= desk.now.traced()) {
            throw new NoSuchElementException("the trace has no such instruction");
        }
        return desk.now.latest(i);
    }

    public int why(int level, int what) throws NoSuchElementException {
        Row now = desk.now;
        int levels = now.causes();
        if (level < 0 || level >= levels || what < 0 || what > 2) {
            throw new NoSuchElementException("no such cause");
        }
        return now.cell(Row.WHY + 3 * level + what);
    }

    public int flaws(int place, int length, boolean zoned, int i)
            throws NoSuchElementException, IllegalArgumentException {
        needField(place, length, 64);
        int flaw = desk.now.firstFlaw(place, length, zoned, 2 * place);
        int counted = 0;
        for (int half = 0; half < 2 * length && flaw != NONE && counted != i; half++) {
            counted++;
            flaw = desk.now.firstFlaw(place, length, zoned, flaw + 1);
        }
        if (i == NONE) {
            return counted;
        }
        if (i < 0 || flaw == NONE) {
            throw new NoSuchElementException("no such flaw");
        }
        return flaw;
    }

    public long number(int place, int length, boolean zoned)
            throws NoSuchElementException, IllegalArgumentException, ArithmeticException {
        needField(place, length, 16);
        needSound(place, length, zoned);
        if (zoned) {
            decimal.takeZoned(desk.now, place, length);
        } else {
            decimal.takePacked(desk.now, place, length);
        }
        if (decimal.size() > 18) {
            throw new ArithmeticException("more than 18 digits");
        }
        return decimal.value();
    }

    public int need(int how, int place, int length, int otherPlace, int otherLength)
            throws NoSuchElementException, IllegalArgumentException {
        if (how < 0 || how > 2) {
            throw new IllegalArgumentException("no such reckoning");
        }
        needField(place, length, 16);
        needField(otherPlace, otherLength, 16);
        needSound(place, length, false);
        needSound(otherPlace, otherLength, false);
        decimal.takePacked(desk.now, place, length);
        other.takePacked(desk.now, otherPlace, otherLength);
        if (how == 2) {
            result.multiply(decimal, other);
        } else {
            result.add(decimal, other, how == 1);
        }
        return result.size() / 2 + 1;
    }

    public int rounds(int place, int length, int n)
            throws NoSuchElementException, IllegalArgumentException {
        if (n < 1 || n > 32) {
            throw new IllegalArgumentException("not 1 to 32");
        }
        needField(place, length, 16);
        needSound(place, length, false);
        decimal.takePacked(desk.now, place, length);
        int bits = 0;
        for (int r = 0; r <= 9; r++) {
            if (decimal.digit(n - 1) + r > 9) {
                bits |= 1 << r;
            }
        }
        return bits;
    }

    public long unedited(int pattern, int length, int place, int i)
            throws NoSuchElementException, IllegalArgumentException {
        needField(pattern, length, 32);
        needField(place, length, 32);
        long ways = editing.sources(desk.now, pattern, length, place);
        if (i == NONE) {
            return ways;
        }
        if (ways == 0 || i < -2 || i >= editing.digits()) {
            throw new NoSuchElementException("no such source, no such digit");
        }
        return editing.firstSource(i);
    }

    public int steps(int many) {
        Row now = desk.now;
        if (!now.running() || many < 1 || many > 50 || now.cell(Row.TIME) > LATEST_TIME - many) {
            desk.refuse(Desk.ACTS);
            return NONE;
        }
        desk.remember();
        int gone = 0;
        while (gone < many && now.running()) {
            foresight.processor.step(now);
            gone++;
        }
        return gone;
    }

    public int lay(int place, int number) {
        Row now = desk.now;
        if (!Row.isPlace(place) || !Row.isByte(number) || now.cell(place) == number) {
            desk.refuse(Desk.ACTS);
            return NONE;
        }
        desk.remember();
        int old = now.cell(place);
        now.put(place, number);
        return old;
    }

    public boolean set(int register, int number) {
        Row now = desk.now;
        if (register < 0 || register > 7 || now.cell(Row.REGISTERS + register) == number) {
            desk.refuse(Desk.ACTS);
            return false;
        }
        desk.remember();
        now.put(Row.REGISTERS + register, number);
        return true;
    }

    public int next(int instruction) {
        if (instruction < 0 || instruction > instructions()) {
            desk.refuse(Desk.ACTS);
            return NONE;
        }
        desk.remember();
        desk.now.put(Row.NEXT, instruction);
        desk.now.put(Row.STATE, instruction < instructions() ? Row.RUNS : Row.HALTED);
        return desk.now.cell(Row.STATE);
    }

    public int begin() {
        desk.remember();
        foresight.processor.restart(desk.now);
        return desk.now.cell(Row.STATE);
    }

    public int undo() {
        if (desk.kept() == 0) {
            return NONE;
        }
        desk.takeBack();
        return desk.kept();
    }

    public int then(int steps, int place) throws NoSuchElementException, IllegalArgumentException {
        needPlace(place);
        needSteps(steps);
        return foresight.behind(desk.now, steps).cell(place);
    }

    public int holds(int steps, int register) throws NoSuchElementException, IllegalArgumentException {
        needRegister(register);
        needSteps(steps);
        return foresight.behind(desk.now, steps).cell(Row.REGISTERS + register);
    }

    public int where(int steps, int what) throws NoSuchElementException, IllegalArgumentException {
        needWhat(what, 3);
        needSteps(steps);
        Row row = foresight.behind(desk.now, steps);
        switch (what) {
            case 0: return row.cell(Row.NEXT);
            case 1: return row.cell(Row.CC);
            case 2: return row.cell(Row.STATE);
            default: return row.cell(Row.FAULTS);
        }
    }

    public int faults(int kind) throws NoSuchElementException {
        needKind(kind);
        return foresight.firstFault(desk.now, kind);
    }

    public int halts() {
        return foresight.firstRest(desk.now);
    }

    public int changes(int place) throws NoSuchElementException {
        needPlace(place);
        return foresight.firstChange(desk.now, place);
    }

    public int round() {
        return foresight.firstReturn(desk.now);
    }

    public int spoilt(int place, int length, int steps, int what)
            throws NoSuchElementException, IllegalArgumentException {
        needWhat(what, 3);
        needField(place, length, 3);
        if (steps < 1 || steps > 60) {
            throw new IllegalArgumentException("not 1 to 60 steps");
        }
        return foresight.spoil(desk.now, place, length, steps, what);
    }

    public int note(int steps, int place, int number) {
        if (desk.noted() >= Desk.MOST_NOTED || steps < 0 || steps > Desk.LATEST_NOTE
                || !Row.isPlace(place) || !Row.isByte(number)) {
            desk.refuse(Desk.NOTES);
            return NONE;
        }
        desk.write(steps, place, number);
        return desk.noted();
    }

    public int blamed(int place, int length, int what)
            throws NoSuchElementException, IllegalArgumentException {
        needWhat(what, 2);
        needField(place, length, 3);
        return foresight.blame(desk, place, length, what);
    }

    public void forget() {
        desk.wipe();
    }

    public int years(int seed, int n, int what)
            throws NoSuchElementException, IllegalArgumentException {
        needWhat(what, 2);
        if (n < 0 || n > 20) {
            throw new IllegalArgumentException("not 0 to 20 years");
        }
        return foresight.age(desk.now, seed, n, what);
    }

    public void image() {
        if (image == null) {
            image = new Desk();
        }
        image.become(desk);
        imaged = true;
    }

    public boolean restore() {
        if (!imaged || image == null) {
            return false;
        }
        desk.become(image);
        return true;
    }

    private int instructions() {
        return foresight.processor.instructions();
    }

    private void append(int number) {
        for (int shift = 24; shift >= 0 && taped < TAPE; shift -= 8) {
            tape[taped] = number >>> shift & 255;
            taped++;
        }
    }

    private void needPlace(int place) {
        if (!Row.isPlace(place)) {
            throw new NoSuchElementException("no such place");
        }
    }

    private void needRegister(int register) {
        if (register < 0 || register > 7) {
            throw new NoSuchElementException("no such register");
        }
    }

    private void needKind(int kind) {
        if (kind < 1 || kind > 8) {
            throw new NoSuchElementException("no such kind");
        }
    }

    private void needWhat(int what, int last) {
        if (what < 0 || what > last) {
            throw new NoSuchElementException("nothing such is told");
        }
    }

    private void needSteps(int steps) {
        if (steps < 0 || steps > 100) {
            throw new IllegalArgumentException("not 0 to 100 steps");
        }
    }

    private void needField(int place, int length, int longest) {
        if (length < 1 || length > longest || !Row.isField(place, length)) {
            throw new IllegalArgumentException("no such field");
        }
    }

    private void needSound(int place, int length, boolean zoned) {
        if (desk.now.firstFlaw(place, length, zoned, 2 * place) != NONE) {
            throw new NoSuchElementException("the field has flaws");
        }
    }

    /** The words of a TEXT that can't be NAMES, each with the pieces that the Parser reads behind it. */
    enum Word {
        AT("at", false, "", 0), PACKED("packed", false, "", 0),
        ZONED("zoned", false, "", 0), IN("in", false, "", 0),
        PACK("pack", true, "px:lqy:m", 0), UNPACK("unpack", true, "px:lqy:m", 0),
        OFFSET("offset", true, "px:lqy:m", 0), MOVE("move", true, "px:lqy:m", 2),
        ADD("add", true, "px:lqy:m", 3), SUB("sub", true, "px:lqy:m", 3),
        COMPARE("compare", true, "px:lqy:m", 3), MUL("mul", true, "px:lqy:m", 3),
        DIV("div", true, "px:lqy:m", 3), COPY("copy", true, "px:Lqy=", 0),
        DIGITS("digits", true, "px:Lqy=", 0), ZONES("zones", true, "px:Lqy=", 0),
        EDIT("edit", true, "px:Lqy", 0), MARK("mark", true, "px:Lqy", 0),
        SHIFT("shift", true, "px:lsd", 1), TEST("test", true, "px:l", 0),
        BIN("bin", true, "%rpx8", 1), DEC("dec", true, "%rpx8", 0), LOAD("load", true, "%rpx", 0),
        PLUS("plus", true, "%r+", 0), COUNT("count", true, "%rn", 0), ON("on", true, "on", 0),
        GUARD("guard", true, "gN", 0), BACK("back", true, "", 0), HALT("halt", true, "", 0);

        private static final Word[] ALL = values();

        final String text;
        final boolean instruction;
        final String form;
        /** Which operands must be PACKED: 1 the first one, 2 the second one. */
        final int packed;

        Word(String text, boolean instruction, String form, int packed) {
            this.text = text;
            this.instruction = instruction;
            this.form = form;
            this.packed = packed;
        }

        /** The word that stands in a row of bytes, or null. */
        static Word told(int[] bytes, int start, int end) {
            if (start < 0 || end > bytes.length) {
                return null;
            }
            for (int i = 0; i < ALL.length; i++) {
                String text = ALL[i].text;
                int alike = 0;
                while (text.length() == end - start && alike < text.length()
                        && text.charAt(alike) == bytes[start + alike]) {
                    alike++;
                }
                if (alike > 0 && alike == text.length()) {
                    return ALL[i];
                }
            }
            return null;
        }
    }

    /** One INSTRUCTION with its operands; a LENGTH 0 means that the operand isn't looked at ahead. */
    static final class Instruction {
        Word word = Word.HALT;
        int placeA;
        int registerA;
        int lengthA;
        int placeB;
        int registerB;
        int lengthB;
        int register;
        int number;
        int rounding;
        int target;

        void renew(Word word) {
            this.word = word;
            placeA = 0;
            registerA = NONE;
            lengthA = 0;
            placeB = 0;
            registerB = NONE;
            lengthB = 0;
            register = 0;
            number = 0;
            rounding = 0;
            target = NONE;
        }
    }

    /** A PROGRAM: its INSTRUCTIONS, and the STORE that its TEXT lays. */
    static final class Listing {
        private static final int LIMIT = 60;

        private final Instruction[] instructions = new Instruction[LIMIT];
        private final int[] laid = new int[Row.PLACES];
        private int size;

        int size() {
            return size;
        }

        void clear() {
            size = 0;
            for (int i = 0; i < laid.length; i++) {
                laid[i] = 0;
            }
        }

        /** One more INSTRUCTION, or null if there is no room for it. */
        Instruction opened(Word word) {
            if (size >= LIMIT) {
                return null;
            }
            if (instructions[size] == null) {
                instructions[size] = new Instruction();
            }
            Instruction fresh = instructions[size];
            fresh.renew(word);
            size++;
            return fresh;
        }

        Instruction told(int index) {
            return index >= 0 && index < size ? instructions[index] : null;
        }

        int laidAt(int place) {
            return Row.isPlace(place) ? laid[place] : 0;
        }

        void layHalf(int index, int number) {
            int place = index >> 1;
            if (Row.isPlace(place)) {
                laid[place] = Row.withHalf(laid[place], index & 1, number);
            }
        }
    }

    /** Reads a TEXT, token by token, up to its first FAULT. */
    static final class Parser {
        private static final int WORD = 1;
        private static final int NUMBER = 2;
        private static final int HEX = 3;
        private static final int SIGN = 4;
        private static final int END = 5;
        private static final int STRANGE = 6;

        private static final int MISPLACED = 1;
        private static final int TOO_MUCH = 2;
        private static final int UNKNOWN = 3;
        private static final int TWICE = 4;

        private static final int HUGE = 1000000;

        private final long[] names = new long[Listing.LIMIT];
        private final long[] wanted = new long[Listing.LIMIT];
        private final int[] wantedPlace = new int[Listing.LIMIT];
        private int[] text = new int[0];
        private int length;
        private Listing listing = new Listing();
        private int type;
        private Word word;
        private int start;
        private int end;
        private int kind;
        private int kindPlace;

        /** Reads so many bytes: the kind of the first FAULT, 0 without. */
        int parse(int[] bytes, int many, Listing told) {
            text = bytes;
            length = Math.min(many, text.length);
            listing = told;
            listing.clear();
            kind = 0;
            end = 0;
            advance();
            for (int line = 0; line <= length && kind == 0 && type != END; line++) {
                readLine();
            }
            if (kind == 0) {
                bindNames();
            }
            return kind;
        }

        int faultPlace() {
            return kindPlace;
        }

        private void readLine() {
            if (word == Word.AT) {
                advance();
                readLaying();
            } else {
                long name = readLabel();
                readInstruction(name);
            }
            passSign(';');
        }

        private void readLaying() {
            int place = passNumber(0, Row.PLACES - 1);
            if (kind != 0) {
                return;
            }
            if (type == HEX) {
                layHex(place);
            } else {
                readDigits(place);
            }
        }

        private void layHex(int place) {
            int signs = end - start - 1;
            if (signs % 2 != 0 || place + signs / 2 > Row.PLACES) {
                fail(TOO_MUCH);
                return;
            }
            for (int i = 0; i < signs; i++) {
                listing.layHalf(2 * place + i, hexDigit(byteAt(start + 1 + i)));
            }
            advance();
        }

        private void readDigits(int place) {
            boolean zoned = word == Word.ZONED;
            if (!zoned && word != Word.PACKED) {
                fail(MISPLACED);
                return;
            }
            advance();
            int sign = passed('-') ? BELOW : ABOVE;
            int from = start;
            int to = end;
            if (type != NUMBER) {
                fail(MISPLACED);
                return;
            }
            advance();
            if (word != Word.IN) {
                fail(MISPLACED);
                return;
            }
            advance();
            int least = zoned ? to - from : (to - from) / 2 + 1;
            int bytes = passNumber(least, Math.min(16, Row.PLACES - place));
            if (kind != 0) {
                return;
            }
            if (zoned) {
                layZoned(place + bytes, bytes, from, to, sign);
            } else {
                layPacked(place + bytes, bytes, from, to, sign);
            }
        }

        private void layPacked(int behind, int bytes, int from, int to, int sign) {
            listing.layHalf(2 * behind - 1, sign);
            for (int i = 1; i < 2 * bytes; i++) {
                listing.layHalf(2 * behind - 1 - i, digitBack(from, to, i));
            }
        }

        private void layZoned(int behind, int bytes, int from, int to, int sign) {
            for (int i = 1; i <= bytes; i++) {
                listing.layHalf(2 * (behind - i), i == 1 ? sign : 15);
                listing.layHalf(2 * (behind - i) + 1, digitBack(from, to, i));
            }
        }

        /** The i-th digit from the right, 0 ahead of the first one. */
        private int digitBack(int from, int to, int i) {
            return to - i < from ? 0 : byteAt(to - i) - '0';
        }

        /** The NAME ahead of an INSTRUCTION, 0 without. */
        private long readLabel() {
            if (type != WORD || word != null) {
                return 0;
            }
            long name = nameHere();
            if (kind == 0 && named(name) != NONE) {
                fail(TWICE);
            }
            if (kind == 0) {
                advance();
                passSign(':');
            }
            return name;
        }

        private void readInstruction(long name) {
            if (kind != 0) {
                return;
            }
            if (word == null || !word.instruction) {
                fail(MISPLACED);
                return;
            }
            int index = listing.size();
            Instruction fresh = listing.opened(word);
            if (fresh == null || index >= names.length) {
                fail(TOO_MUCH);
                return;
            }
            names[index] = name;
            wanted[index] = 0;
            String form = word.form;
            advance();
            for (int i = 0; i < form.length() && kind == 0; i++) {
                readPiece(fresh, form.charAt(i));
            }
        }

        /** One piece of what stands behind an INSTRUCTION's word, as Word.form tells them. */
        private void readPiece(Instruction fresh, int piece) {
            switch (piece) {
                case 'p': fresh.placeA = passNumber(0, Row.PLACES - 1); break;
                case 'x': fresh.registerA = passed('%') ? passNumber(0, 7) : NONE; break;
                case 'q': fresh.placeB = passNumber(0, Row.PLACES - 1); break;
                case 'y': fresh.registerB = passed('%') ? passNumber(0, 7) : NONE; break;
                case ':': passSign(':'); break;
                case 'l': fresh.lengthA = passNumber(1, 16); break;
                case 'L': fresh.lengthA = passNumber(1, 64); break;
                case 'm': fresh.lengthB = passNumber(1, 16); break;
                case '=': fresh.lengthB = fresh.lengthA; break;
                case '8': fresh.lengthA = 8; break;
                case '%': passSign('%'); break;
                case 'r': fresh.register = passNumber(0, 7); break;
                case 's': fresh.number = passed('-') ? -passNumber(0, 32) : passNumber(0, 31); break;
                case 'd': fresh.rounding = passNumber(0, 9); break;
                case '+': fresh.number = passed('-') ? -passNumber(0, 9999) : passNumber(0, 9999); break;
                case 'o': fresh.number = passNumber(0, 15); break;
                case 'g': fresh.number = passNumber(1, 8); break;
                case 'n': readTarget(); break;
                default:
                    if (type == WORD) {
                        readTarget();
                    }
                    break;
            }
        }

        private void readTarget() {
            long name = nameHere();
            int index = listing.size() - 1;
            if (kind == 0 && index >= 0 && index < wanted.length) {
                wanted[index] = name;
                wantedPlace[index] = start;
                advance();
            }
        }

        private void bindNames() {
            for (int i = 0; i < listing.size() && i < wanted.length && kind == 0; i++) {
                Instruction told = listing.told(i);
                if (told != null && wanted[i] != 0) {
                    told.target = named(wanted[i]);
                    if (told.target == NONE) {
                        kind = UNKNOWN;
                        kindPlace = wantedPlace[i];
                    }
                }
            }
        }

        private int named(long name) {
            for (int i = 0; i < listing.size() && i < names.length; i++) {
                if (names[i] == name) {
                    return i;
                }
            }
            return NONE;
        }

        /** The NAME that stands here, its letters as one number; 0 by a FAULT. */
        private long nameHere() {
            if (type != WORD || word != null) {
                fail(MISPLACED);
                return 0;
            }
            if (end - start > 8) {
                fail(TOO_MUCH);
                return 0;
            }
            long name = 0;
            for (int i = start; i < end; i++) {
                name = name * 27 + (byteAt(i) - 'a' + 1);
            }
            return name;
        }

        private boolean isHere(int sign) {
            return kind == 0 && type == SIGN && byteAt(start) == sign;
        }

        /** Goes on behind a sign that may stand here: whether it does. */
        private boolean passed(int sign) {
            boolean here = isHere(sign);
            if (here) {
                advance();
            }
            return here;
        }

        private void passSign(int sign) {
            if (isHere(sign)) {
                advance();
            } else {
                fail(MISPLACED);
            }
        }

        private int passNumber(int least, int most) {
            if (kind != 0 || type != NUMBER) {
                fail(MISPLACED);
                return 0;
            }
            int number = 0;
            for (int i = start; i < end; i++) {
                number = Math.min(number * 10 + byteAt(i) - '0', HUGE);
            }
            if (number < least || number > most) {
                fail(TOO_MUCH);
                return 0;
            }
            advance();
            return number;
        }

        /** The first FAULT stays; what is read behind it counts for nothing. */
        private void fail(int found) {
            if (kind == 0) {
                kind = found;
                kindPlace = start;
            }
        }

        private void advance() {
            start = end;
            while (start < length && (byteAt(start) == 32 || byteAt(start) == 10)) {
                start++;
            }
            end = start + 1;
            word = null;
            int first = byteAt(start);
            if (start >= length) {
                type = END;
                end = start;
            } else if (isLetter(first)) {
                type = WORD;
                while (end < length && isLetter(byteAt(end))) {
                    end++;
                }
                word = Word.told(text, start, end);
            } else if (isDigit(first)) {
                type = NUMBER;
                while (end < length && isDigit(byteAt(end))) {
                    end++;
                }
            } else if (first == '#') {
                while (end < length && hexDigit(byteAt(end)) != NONE) {
                    end++;
                }
                type = end - start > 1 ? HEX : STRANGE;
            } else {
                type = first == ';' || first == ':' || first == '%' || first == '-' ? SIGN : STRANGE;
            }
        }

        private int byteAt(int index) {
            return index >= 0 && index < text.length ? text[index] : 0;
        }

        private static boolean isLetter(int sign) {
            return sign >= 'a' && sign <= 'z';
        }

        private static boolean isDigit(int sign) {
            return sign >= '0' && sign <= '9';
        }

        private static int hexDigit(int sign) {
            if (sign >= '0' && sign <= '9') {
                return sign - '0';
            }
            return sign >= 'a' && sign <= 'f' ? sign - 'a' + 10 : NONE;
        }
    }

    /** All that STEPS and ACTS change, in one row of cells, so that it is kept and compared at once. */
    static final class Row {
        static final int PLACES = 256;
        static final int REGISTERS = 256;
        static final int CC = 264;
        static final int NEXT = 265;
        static final int OLD = 266;
        static final int STATE = 267;
        static final int GUARDS = 268;
        static final int TIME = 276;
        static final int FAULTS = 277;
        /** Kind, INSTRUCTION, TIME; operand, ADDRESS, LENGTH; PLACE, HALF, what it held. */
        static final int WHY = 278;
        static final int TRACE = 287;
        static final int DONE = 351;
        static final int SIZE = DONE + Listing.LIMIT;

        static final int RUNS = 0;
        static final int HALTED = 1;
        static final int FAILED = 2;

        private static final int TRACED = 64;

        final int[] cells = new int[SIZE];

        /** As behind an empty TEXT. */
        Row() {
            clear();
        }

        static boolean isPlace(int place) {
            return place >= 0 && place < PLACES;
        }

        static boolean isByte(int number) {
            return number >= 0 && number < 256;
        }

        static boolean isField(int place, int length) {
            return length >= 0 && length <= PLACES && place >= 0 && place <= PLACES - length;
        }

        static int withHalf(int held, int half, int number) {
            return half == 0 ? number << 4 | held & 15 : held & 240 | number;
        }

        int cell(int index) {
            return index >= 0 && index < SIZE ? cells[index] : 0;
        }

        void put(int index, int number) {
            if (index >= 0 && index < SIZE) {
                cells[index] = number;
            }
        }

        boolean running() {
            return cells[STATE] == RUNS;
        }

        /** What a HALF holds; its index is twice its byte's PLACE and which it is. */
        int half(int index) {
            int place = index >> 1;
            return place < 0 || place >= PLACES ? 0 : cells[place] >> ((index & 1) == 0 ? 4 : 0) & 15;
        }

        void putHalf(int index, int number) {
            int place = index >> 1;
            if (place >= 0 && place < PLACES) {
                cells[place] = withHalf(cells[place], index & 1, number);
            }
        }

        /** The first FLAW of a FIELD from a HALF on, NONE without. */
        int firstFlaw(int place, int length, boolean zoned, int from) {
            int last = 2 * (place + length) - 1;
            int signAt = zoned ? last - 1 : last;
            for (int index = Math.max(from, 0); index <= last && index < 2 * PLACES; index++) {
                int held = cells[index >> 1] >> ((index & 1) == 0 ? 4 : 0) & 15;
                boolean sound = held < 10;
                if (index == signAt) {
                    sound = held > 9;
                } else if (zoned && (index & 1) == 0) {
                    sound = held == 15;
                }
                if (!sound) {
                    return index;
                }
            }
            return NONE;
        }

        int traced() {
            return Math.min(cells[TIME], TRACED);
        }

        /** The i-th latest INSTRUCTION that was done. */
        int latest(int i) {
            return cell(TRACE + Math.floorMod(cells[TIME] - 1 - i, TRACED));
        }

        /** One STEP more by which an INSTRUCTION was done. */
        void record(int instruction) {
            put(TRACE + Math.floorMod(cells[TIME], TRACED), instruction);
            put(DONE + instruction, cell(DONE + instruction) + 1);
            cells[TIME]++;
        }

        int neverDone(int instructions) {
            int never = 0;
            for (int i = 0; i < instructions; i++) {
                if (cell(DONE + i) == 0) {
                    never++;
                }
            }
            return never;
        }

        /** How many levels WHY has. */
        int causes() {
            if (cells[FAULTS] == 0) {
                return 0;
            }
            return cells[WHY] == Processor.HALF || cells[WHY] == Processor.ZEROS ? 3 : 2;
        }

        void become(Row other) {
            System.arraycopy(other.cells, 0, cells, 0, SIZE);
        }

        /** Whether the first cells are as in another row, but for one (NONE: all of them). */
        boolean alike(Row other, int many, int but) {
            for (int i = 0; i < many && i < SIZE; i++) {
                if (cells[i] != other.cells[i] && i != but) {
                    return false;
                }
            }
            return true;
        }

        int unlike(Row other) {
            int unlike = 0;
            for (int place = 0; place < PLACES; place++) {
                if (cells[place] != other.cells[place]) {
                    unlike++;
                }
            }
            return unlike;
        }

        /** All anew, behind the TEXT of a PROGRAM. */
        void renew(Listing listing) {
            clear();
            restart(listing);
        }

        /** It BEGINS anew: TIME and what is told of STEPS stay. */
        void restart(Listing listing) {
            for (int place = 0; place < PLACES; place++) {
                cells[place] = listing.laidAt(place);
            }
            for (int i = REGISTERS; i < GUARDS; i++) {
                cells[i] = 0;
            }
            clearGuards();
            cells[STATE] = listing.size() > 0 ? RUNS : HALTED;
        }

        private void clear() {
            for (int i = 0; i < SIZE; i++) {
                cells[i] = 0;
            }
            clearGuards();
            cells[STATE] = HALTED;
        }

        private void clearGuards() {
            for (int i = GUARDS; i < TIME; i++) {
                cells[i] = NONE;
            }
            cells[OLD] = NONE;
        }
    }

    /** Does the STEPS of a PROGRAM on any row. */
    static final class Processor {
        static final int PLACE = 1;
        static final int LENGTH = 2;
        static final int OVERLAP = 3;
        static final int HALF = 4;
        static final int ZEROS = 5;
        static final int OVERFLOW = 6;
        static final int QUOTIENT = 7;
        static final int RANGE = 8;

        private final Decimal first = new Decimal();
        private final Decimal second = new Decimal();
        private final Decimal result = new Decimal();
        private final Editing editing = new Editing();
        /** What WHY tells, in the order of its cells in a row. */
        private final int[] reason = new int[9];
        private Listing listing = new Listing();
        private Row row = new Row();
        private Instruction doing = new Instruction();
        private int addressA;
        private int addressB;
        private int endA;
        private int endB;
        private int following;
        private boolean halting;

        int instructions() {
            return listing.size();
        }

        /** Takes another PROGRAM, and answers the one that it had. */
        Listing exchange(Listing told) {
            Listing old = listing;
            listing = told;
            return old;
        }

        /** The row is as behind the TEXT, as far as it BEGINS anew. */
        void restart(Row stopped) {
            stopped.restart(listing);
        }

        /** One STEP of a row that RUNS: the kind of its FAULT, 0 without. */
        int step(Row stepped) {
            int index = stepped.cell(Row.NEXT);
            Instruction told = listing.told(index);
            if (told == null) {
                return 0;
            }
            row = stepped;
            doing = told;
            following = index + 1;
            halting = false;
            int kind = checked();
            if (kind == 0) {
                kind = perform();
            }
            if (kind == OVERFLOW && row.cell(Row.GUARDS + OVERFLOW - 1) == NONE) {
                kind = 0;
            }
            if (kind != 0) {
                tellWhy(kind, index);
            }
            row.record(index);
            conclude(kind, index);
            return kind;
        }

        /** The FAULTS of kinds 1 to 4, but those of 'edit' and 'mark' at b. */
        private int checked() {
            addressA = doing.placeA + held(doing.registerA);
            addressB = doing.placeB + held(doing.registerB);
            endA = addressA + doing.lengthA;
            endB = addressB + doing.lengthB;
            if (doing.lengthA > 0 && !Row.isField(addressA, doing.lengthA)) {
                return blame(PLACE, 0);
            }
            if (doing.lengthB > 0 && !Row.isField(addressB, doing.lengthB)) {
                return blame(PLACE, 1);
            }
            int kind = misfit();
            if (kind == 0 && (doing.word.packed & 1) != 0) {
                kind = flawed(0);
            }
            if (kind == 0 && (doing.word.packed & 2) != 0) {
                kind = flawed(1);
            }
            return kind;
        }

        private int misfit() {
            boolean share = addressA < endB && addressB < endA;
            switch (doing.word) {
                case MOVE:
                    return share && endA < endB ? blame(OVERLAP, 1) : 0;
                case ADD: case SUB:
                    return share && endA != endB ? blame(OVERLAP, 1) : 0;
                case MUL: case DIV:
                    if (doing.lengthB > 8 || doing.lengthB >= doing.lengthA) {
                        return blame(LENGTH, 1);
                    }
                    return share && endA != endB ? blame(OVERLAP, 1) : 0;
                default:
                    return 0;
            }
        }

        private int flawed(int operand) {
            int address = operand == 0 ? addressA : addressB;
            int length = operand == 0 ? doing.lengthA : doing.lengthB;
            int index = row.firstFlaw(address, length, false, 2 * address);
            if (index == NONE) {
                return 0;
            }
            blameHalf(index, row.half(index));
            return blame(HALF, operand);
        }

        private int perform() {
            int lengthA = doing.lengthA;
            int lengthB = doing.lengthB;
            switch (doing.word) {
                case PACK: Mover.packBytes(row, addressA, lengthA, addressB, lengthB); return 0;
                case UNPACK: Mover.unpackBytes(row, addressA, lengthA, addressB, lengthB); return 0;
                case OFFSET: Mover.offsetBytes(row, addressA, lengthA, addressB, lengthB); return 0;
                case COPY: Mover.copyBytes(row, addressA, lengthA, addressB, 255); return 0;
                case DIGITS: Mover.copyBytes(row, addressA, lengthA, addressB, 15); return 0;
                case ZONES: Mover.copyBytes(row, addressA, lengthA, addressB, 240); return 0;
                case MOVE: return moveNumber();
                case ADD: return addNumbers(false);
                case SUB: return addNumbers(true);
                case COMPARE: return compareNumbers();
                case MUL: return multiplyNumbers();
                case DIV: return divideNumbers();
                case SHIFT: return shiftNumber();
                case EDIT: return edited(editing.edit(row, addressA, lengthA, addressB), false);
                case MARK: return edited(editing.edit(row, addressA, lengthA, addressB), true);
                case BIN: return toBinary();
                default: return performPlain();
            }
        }

        /** The INSTRUCTIONS that have no FAULT but that of a PLACE. */
        private int performPlain() {
            int register = Row.REGISTERS + doing.register;
            int held = row.cell(register);
            switch (doing.word) {
                case DEC:
                    result.takeNumber(held);
                    result.put(row, addressA, doing.lengthA, result.sign());
                    break;
                case LOAD:
                    row.put(register, addressA);
                    break;
                case PLUS:
                    row.put(register, held + doing.number);
                    break;
                case TEST:
                    row.put(Row.CC, tested());
                    break;
                case COUNT:
                    row.put(register, held - 1);
                    following = held - 1 != 0 ? doing.target : following;
                    break;
                case ON:
                    following = (doing.number & 8 >> row.cell(Row.CC)) != 0 ? doing.target : following;
                    break;
                case GUARD:
                    row.put(Row.GUARDS + doing.number - 1, doing.target);
                    break;
                case BACK:
                    following = row.cell(Row.OLD) != NONE ? row.cell(Row.OLD) + 1 : following;
                    break;
                default:
                    halting = true;
                    break;
            }
            return 0;
        }

        private int tested() {
            int signAt = 2 * endA - 1;
            int flaw = row.firstFlaw(addressA, doing.lengthA, false, 2 * addressA);
            int digits = flaw != NONE && flaw != signAt ? 2 : 0;
            return row.half(signAt) > 9 ? digits : digits + 1;
        }

        private int moveNumber() {
            result.takePacked(row, addressB, doing.lengthB);
            return putResult();
        }

        private int addNumbers(boolean less) {
            first.takePacked(row, addressA, doing.lengthA);
            second.takePacked(row, addressB, doing.lengthB);
            result.add(first, second, less);
            return putResult();
        }

        private int compareNumbers() {
            first.takePacked(row, addressA, doing.lengthA);
            second.takePacked(row, addressB, doing.lengthB);
            result.add(first, second, true);
            row.put(Row.CC, result.kind());
            return 0;
        }

        private int multiplyNumbers() {
            for (int index = 2 * addressA; index < 2 * (addressA + doing.lengthB); index++) {
                if (row.half(index) != 0) {
                    blameHalf(index, row.half(index));
                    return blame(ZEROS, 0);
                }
            }
            first.takePacked(row, addressA, doing.lengthA);
            second.takePacked(row, addressB, doing.lengthB);
            result.multiply(first, second);
            result.put(row, addressA, doing.lengthA, result.below() ? BELOW : ABOVE);
            return 0;
        }

        private int divideNumbers() {
            first.takePacked(row, addressA, doing.lengthA);
            second.takePacked(row, addressB, doing.lengthB);
            int room = doing.lengthA - doing.lengthB;
            long left = result.divide(first, second.magnitude());
            if (left == NONE || result.size() > 2 * room - 1) {
                return blame(QUOTIENT, 0);
            }
            result.put(row, addressA, room, first.below() != second.below() ? BELOW : ABOVE);
            result.takeNumber(left);
            result.put(row, addressA + room, doing.lengthB, first.below() ? BELOW : ABOVE);
            return 0;
        }

        private int shiftNumber() {
            first.takePacked(row, addressA, doing.lengthA);
            if (doing.number >= 0) {
                result.shiftLeft(first, doing.number);
            } else {
                result.shiftRight(first, -doing.number, doing.rounding);
            }
            return putResult();
        }

        /** 'edit' has its own course along b, so its FAULTS blame the byte that it looked at. */
        private int edited(int kind, boolean marks) {
            if (kind != 0) {
                addressB = editing.looked();
                blameHalf(2 * addressB, editing.held() >> 4);
                blame(kind, 1);
                reason[5] = 1;
                return kind;
            }
            row.put(Row.CC, editing.condition());
            if (marks && editing.marked() != NONE) {
                row.put(Row.REGISTERS + 1, editing.marked());
            }
            return 0;
        }

        private int toBinary() {
            first.takePacked(row, addressA, doing.lengthA);
            long number = first.value();
            if (number != (int) number) {
                return blame(RANGE, 0);
            }
            row.put(Row.REGISTERS + doing.register, (int) number);
            return 0;
        }

        private int putResult() {
            boolean cut = result.size() > 2 * doing.lengthA - 1;
            result.put(row, addressA, doing.lengthA, result.sign());
            row.put(Row.CC, cut ? 3 : result.kind());
            return cut ? blame(OVERFLOW, 0) : 0;
        }

        private int held(int register) {
            return register == NONE ? 0 : row.cell(Row.REGISTERS + register);
        }

        private int blame(int kind, int operand) {
            reason[3] = operand;
            reason[4] = operand == 0 ? addressA : addressB;
            reason[5] = operand == 0 ? doing.lengthA : doing.lengthB;
            return kind;
        }

        private void blameHalf(int index, int held) {
            reason[6] = index >> 1;
            reason[7] = index & 1;
            reason[8] = held;
        }

        private void tellWhy(int kind, int index) {
            reason[0] = kind;
            reason[1] = index;
            reason[2] = row.cell(Row.TIME);
            for (int i = 0; i < reason.length; i++) {
                row.put(Row.WHY + i, reason[i]);
            }
            row.put(Row.FAULTS, row.cell(Row.FAULTS) + 1);
        }

        private void conclude(int kind, int index) {
            int guard = kind == 0 ? NONE : row.cell(Row.GUARDS + kind - 1);
            if (kind != 0 && guard == NONE) {
                row.put(Row.STATE, Row.FAILED);
                return;
            }
            if (kind != 0) {
                row.put(Row.OLD, index);
                following = guard;
            }
            row.put(Row.NEXT, following);
            row.put(Row.STATE, halting || following >= listing.size() ? Row.HALTED : Row.RUNS);
        }
    }

    /** Moves HALVES and bytes within the STORE; FIELDS may share bytes, so the order counts. */
    static final class Mover {
        private Mover() {
        }

        static void packBytes(Row row, int placeA, int lengthA, int placeB, int lengthB) {
            int from = placeB + lengthB - 1;
            row.put(placeA + lengthA - 1, turned(row.cell(from)));
            from--;
            for (int to = placeA + lengthA - 2; to >= placeA; to--) {
                int right = from >= placeB ? row.half(2 * from + 1) : 0;
                int left = from - 1 >= placeB ? row.half(2 * from - 1) : 0;
                row.put(to, left << 4 | right);
                from -= 2;
            }
        }

        static void unpackBytes(Row row, int placeA, int lengthA, int placeB, int lengthB) {
            int from = placeB + lengthB - 1;
            row.put(placeA + lengthA - 1, turned(row.cell(from)));
            int looked = 0;
            boolean right = true;
            for (int to = placeA + lengthA - 2; to >= placeA; to--) {
                if (right) {
                    from--;
                    looked = from >= placeB ? row.cell(from) : 0;
                }
                row.put(to, 240 | (right ? looked & 15 : looked >> 4));
                right = !right;
            }
        }

        static void offsetBytes(Row row, int placeA, int lengthA, int placeB, int lengthB) {
            int from = placeB + lengthB - 1;
            int right = row.half(2 * (placeA + lengthA) - 1);
            for (int to = placeA + lengthA - 1; to >= placeA; to--) {
                int looked = from >= placeB ? row.cell(from) : 0;
                row.put(to, (looked & 15) << 4 | right);
                right = looked >> 4;
                from--;
            }
        }

        static void copyBytes(Row row, int placeA, int length, int placeB, int mask) {
            for (int i = 0; i < length; i++) {
                int kept = row.cell(placeA + i) & ~mask;
                row.put(placeA + i, kept | row.cell(placeB + i) & mask);
            }
        }

        private static int turned(int held) {
            return (held & 15) << 4 | held >> 4;
        }
    }

    /** A decimal number of any FIELD, sum or product: digits from the lowest on, and a SIGN. */
    static final class Decimal {
        private static final int ROOM = 64;

        private final int[] digits = new int[ROOM];
        private int size;
        private boolean below;

        /** How many digits there are without 0 ahead. */
        int size() {
            return size;
        }

        /** Whether the SIGN is one below 0, be the number 0 or not. */
        boolean below() {
            return below;
        }

        int digit(int index) {
            return index >= 0 && index < ROOM ? digits[index] : 0;
        }

        /** The SIGN of the NUMBER: 0 has the one above. */
        int sign() {
            return below && size > 0 ? BELOW : ABOVE;
        }

        /** As CC tells it: 0 for 0, 1 below, 2 above. */
        int kind() {
            if (size == 0) {
                return 0;
            }
            return below ? 1 : 2;
        }

        void takePacked(Row row, int place, int length) {
            int signAt = 2 * (place + length) - 1;
            for (int i = 0; i < ROOM; i++) {
                digits[i] = i < 2 * length - 1 ? row.half(signAt - 1 - i) : 0;
            }
            below = isBelow(row.half(signAt));
            measure();
        }

        void takeZoned(Row row, int place, int length) {
            int last = 2 * (place + length) - 1;
            for (int i = 0; i < ROOM; i++) {
                digits[i] = i < length ? row.half(last - 2 * i) : 0;
            }
            below = isBelow(row.half(last - 1));
            measure();
        }

        void takeNumber(long number) {
            long left = number;
            for (int i = 0; i < ROOM; i++) {
                digits[i] = (int) Math.abs(left % 10);
                left /= 10;
            }
            below = number < 0;
            measure();
        }

        /** The digits as a number, if they have room in a long (18 digits at most are asked for). */
        long magnitude() {
            long number = 0;
            for (int i = Math.min(size, 18) - 1; i >= 0; i--) {
                number = number * 10 + digits[i];
            }
            return number;
        }

        long value() {
            return below ? -magnitude() : magnitude();
        }

        /** Lays the lowest digits, as many as have room, and a SIGN. */
        void put(Row row, int place, int length, int sign) {
            int right = sign;
            for (int i = 0; i < length && 2 * i + 1 < ROOM; i++) {
                int to = place + length - 1 - i;
                if (to >= 0 && to < Row.PLACES) {
                    row.cells[to] = digits[2 * i] << 4 | right;
                }
                right = digits[2 * i + 1];
            }
        }

        void add(Decimal a, Decimal b, boolean less) {
            boolean belowB = b.below != less;
            if (a.below == belowB) {
                addDigits(a, b);
                below = a.below;
            } else if (isLess(a, b)) {
                subtractDigits(b, a);
                below = belowB;
            } else {
                subtractDigits(a, b);
                below = a.below;
            }
            measure();
        }

        private void addDigits(Decimal a, Decimal b) {
            int carry = 0;
            for (int i = 0; i < ROOM; i++) {
                int sum = a.digits[i] + b.digits[i] + carry;
                carry = sum > 9 ? 1 : 0;
                digits[i] = sum - 10 * carry;
            }
        }

        private void subtractDigits(Decimal a, Decimal b) {
            int borrow = 0;
            for (int i = 0; i < ROOM; i++) {
                int difference = a.digits[i] - b.digits[i] - borrow;
                borrow = difference < 0 ? 1 : 0;
                digits[i] = difference + 10 * borrow;
            }
        }

        private static boolean isLess(Decimal a, Decimal b) {
            for (int i = ROOM - 1; i >= 0; i--) {
                if (a.digits[i] != b.digits[i]) {
                    return a.digits[i] < b.digits[i];
                }
            }
            return false;
        }

        void multiply(Decimal a, Decimal b) {
            int carry = 0;
            for (int i = 0; i < ROOM; i++) {
                int sum = carry;
                for (int j = Math.max(0, i - b.size + 1); j <= i && j < a.size; j++) {
                    sum += a.digits[j] * b.digits[i - j];
                }
                digits[i] = sum % 10;
                carry = sum / 10;
            }
            below = a.below != b.below;
            measure();
        }

        /** The quotient without SIGN; answers what is left over, NONE if the divisor is 0. */
        long divide(Decimal a, long divisor) {
            if (divisor <= 0) {
                return NONE;
            }
            long left = 0;
            for (int i = ROOM - 1; i >= 0; i--) {
                left = left * 10 + a.digits[i];
                digits[i] = (int) (left / divisor);
                left = left % divisor;
            }
            measure();
            return left;
        }

        void shiftLeft(Decimal a, int n) {
            for (int i = 0; i < ROOM; i++) {
                digits[i] = a.digit(i - n);
            }
            below = a.below;
            measure();
        }

        void shiftRight(Decimal a, int n, int rounding) {
            int carry = a.digit(n - 1) + rounding > 9 ? 1 : 0;
            for (int i = 0; i < ROOM; i++) {
                int sum = a.digit(i + n) + carry;
                carry = sum > 9 ? 1 : 0;
                digits[i] = sum - 10 * carry;
            }
            below = a.below;
            measure();
        }

        private static boolean isBelow(int sign) {
            return sign == 11 || sign == BELOW;
        }

        private void measure() {
            size = ROOM;
            while (size > 0 && digits[size - 1] == 0) {
                size--;
            }
        }
    }

    /** Edits by patterns, and finds what can have been edited. */
    static final class Editing {
        private static final int DIGIT = 32;
        private static final int START = 33;
        private static final int SEPARATOR = 34;
        private static final int LONGEST = 64;
        private static final int LONGEST_TOLD = 32;

        private final int[] saved = new int[LONGEST];
        private final int[] pattern = new int[LONGEST_TOLD];
        private final int[] target = new int[LONGEST_TOLD];
        /** How many rows of digits do, from a byte on, by state: 1 for SEEN, 2 for a SIGN below 0. */
        private final long[] ways = new long[4 * (LONGEST_TOLD + 1)];
        private Row row = new Row();
        private int fill;
        private int kind;
        private int looked;
        private int held;
        private boolean rightWaits;
        private boolean signAbove;
        private boolean seen;
        private boolean anyDigit;
        private int marked;
        private int told;
        private int digits;
        private int lastDigit;

        /** The ADDRESS of the byte that was looked at last. */
        int looked() {
            return looked;
        }

        int held() {
            return held;
        }

        /** CC behind an edit. */
        int condition() {
            if (!anyDigit) {
                return 0;
            }
            return seen ? 1 : 2;
        }

        /** The PLACE that 'mark' tells, NONE without. */
        int marked() {
            return marked;
        }

        /** Edits in place; by a FAULT, whose kind it answers, all is as it was. */
        int edit(Row edited, int place, int length, int from) {
            row = edited;
            fill = row.cell(place);
            kind = 0;
            looked = from - 1;
            rightWaits = false;
            seen = false;
            anyDigit = false;
            marked = NONE;
            for (int i = 0; i < length && i < LONGEST; i++) {
                saved[i] = row.cell(place + i);
            }
            for (int i = 0; i < length && kind == 0; i++) {
                editByte(place + i);
            }
            for (int i = 0; i < length && i < LONGEST && kind != 0; i++) {
                row.put(place + i, saved[i]);
            }
            return kind;
        }

        private void editByte(int place) {
            int mark = row.cell(place);
            int digit = 0;
            signAbove = false;
            if (takesDigit(mark)) {
                digit = takeDigit();
                anyDigit = anyDigit || digit != 0;
                marked = digit != 0 && !seen ? place : marked;
            } else if (mark == SEPARATOR) {
                anyDigit = false;
            }
            row.put(place, laid(mark, fill, seen, digit));
            seen = seenBehind(mark, seen, digit, signAbove);
        }

        /** The next digit from b; 0, and a kind of FAULT, if there is none. */
        private int takeDigit() {
            if (rightWaits) {
                rightWaits = false;
                return held & 15;
            }
            looked++;
            if (looked < 0 || looked >= Row.PLACES) {
                kind = Processor.PLACE;
                return 0;
            }
            held = row.cells[looked];
            if (held >> 4 > 9) {
                kind = Processor.HALF;
                return 0;
            }
            int right = held & 15;
            rightWaits = right < 10;
            signAbove = right > 9 && right != 11 && right != BELOW;
            return held >> 4;
        }

        private static boolean takesDigit(int mark) {
            return mark == DIGIT || mark == START;
        }

        private static int laid(int mark, int fill, boolean seen, int digit) {
            if (mark == DIGIT || mark == START) {
                return digit == 0 && !seen ? fill : 240 | digit;
            }
            return mark == SEPARATOR || !seen ? fill : mark;
        }

        private static boolean seenBehind(int mark, boolean seen, int digit, boolean above) {
            if (mark == DIGIT || mark == START) {
                return !above && (seen || digit != 0 || mark == START);
            }
            return mark != SEPARATOR && seen;
        }

        /** How many SOURCES a PATTERN gives the bytes from a PLACE on; the others are asked for behind this. */
        long sources(Row now, int patternPlace, int length, int place) {
            told = Math.min(length, LONGEST_TOLD);
            fill = now.cell(patternPlace);
            digits = 0;
            lastDigit = NONE;
            for (int i = 0; i < told; i++) {
                pattern[i] = now.cell(patternPlace + i);
                target[i] = now.cell(place + i);
                if (takesDigit(pattern[i])) {
                    digits++;
                    lastDigit = i;
                }
            }
            for (int index = told; index >= 0; index--) {
                for (int state = 0; state < 4; state++) {
                    ways[4 * index + state] = index == told ? 1 : waysFrom(index, state);
                }
            }
            return ways[0] + ways[2];
        }

        int digits() {
            return digits;
        }

        /** Of the first SOURCE the digit that is wanted, or, if none is, its SIGN. */
        int firstSource(int wanted) {
            int above = ways[0] > 0 ? 0 : NONE;
            int below = ways[2] > 0 ? 2 : NONE;
            int taken = 0;
            for (int index = 0; index < told; index++) {
                int digit = 0;
                while (digit < 9 && way(index, above, digit) == NONE && way(index, below, digit) == NONE) {
                    digit++;
                }
                if (takesDigit(pattern[index])) {
                    if (taken == wanted) {
                        return digit;
                    }
                    taken++;
                }
                above = way(index, above, digit);
                below = way(index, below, digit);
            }
            return above != NONE ? 0 : 1;
        }

        private long waysFrom(int index, int state) {
            int most = takesDigit(pattern[index]) ? 9 : 0;
            long sum = 0;
            for (int digit = 0; digit <= most; digit++) {
                int behind = stateBehind(index, state, digit);
                sum += behind == NONE ? 0 : ways[4 * (index + 1) + behind];
            }
            return sum;
        }

        /** The state behind a byte, NONE if no SOURCE goes that way. */
        private int way(int index, int state, int digit) {
            int behind = state == NONE ? NONE : stateBehind(index, state, digit);
            return behind == NONE || ways[4 * (index + 1) + behind] == 0 ? NONE : behind;
        }

        /** The state behind a byte, NONE if another byte would be laid than stands there. */
        private int stateBehind(int index, int state, int digit) {
            boolean on = (state & 1) != 0;
            if (laid(pattern[index], fill, on, digit) != target[index]) {
                return NONE;
            }
            boolean above = index == lastDigit && state < 2;
            return state & 2 | (seenBehind(pattern[index], on, digit, above) ? 1 : 0);
        }
    }

    /** What an IMAGE keeps: the row, the ACTS that can be undone, what is NOTED, STATUS. */
    static final class Desk {
        static final int TEXTS = 0;
        static final int ACTS = 1;
        static final int NOTES = 2;
        static final int MOST_NOTED = 8;
        static final int LATEST_NOTE = 60;

        private static final int MOST_KEPT = 40;

        final Row now = new Row();
        /** A ring of the rows as they were ahead of each ACT. */
        private final Row[] acts = new Row[MOST_KEPT];
        private int oldest;
        private int kept;
        private final int[] notes = new int[3 * MOST_NOTED];
        private int noted;
        private final int[] refusals = new int[3];

        int kept() {
            return kept;
        }

        int noted() {
            return noted;
        }

        int refused(int which) {
            return which >= 0 && which < refusals.length ? refusals[which] : 0;
        }

        void refuse(int which) {
            if (which >= 0 && which < refusals.length) {
                refusals[which]++;
            }
        }

        /** Keeps the row as it is ahead of an ACT; the oldest one gives way. */
        void remember() {
            if (kept == MOST_KEPT) {
                oldest = (oldest + 1) % MOST_KEPT;
                kept--;
            }
            keep(oldest + kept, now);
            kept++;
        }

        void takeBack() {
            int slot = (oldest + kept - 1) % MOST_KEPT;
            if (kept > 0 && slot >= 0 && acts[slot] != null) {
                now.become(acts[slot]);
                kept--;
            }
        }

        private void keep(int index, Row row) {
            int slot = index % MOST_KEPT;
            if (slot < 0) {
                return;
            }
            if (acts[slot] == null) {
                acts[slot] = new Row();
            }
            acts[slot].become(row);
        }

        void write(int steps, int place, int number) {
            if (noted < MOST_NOTED) {
                notes[3 * noted] = steps;
                notes[3 * noted + 1] = place;
                notes[3 * noted + 2] = number;
                noted++;
            }
        }

        void wipe() {
            noted = 0;
        }

        /** Behind how many STEPS the last of what is NOTED is seen, NONE if nothing is. */
        int latestNote() {
            int latest = NONE;
            for (int i = 0; i < noted; i++) {
                latest = Math.max(latest, notes[3 * i]);
            }
            return latest;
        }

        /** Whether all that is NOTED for behind so many STEPS is so in a row. */
        boolean bears(Row row, int steps) {
            for (int i = 0; i < noted; i++) {
                if (notes[3 * i] == steps && row.cell(notes[3 * i + 1]) != notes[3 * i + 2]) {
                    return false;
                }
            }
            return true;
        }

        void renew(Listing listing) {
            now.renew(listing);
            oldest = 0;
            kept = 0;
            noted = 0;
        }

        void become(Desk other) {
            now.become(other.now);
            oldest = 0;
            kept = 0;
            for (int i = 0; i < other.kept; i++) {
                Row act = other.acts[(other.oldest + i) % MOST_KEPT];
                if (act != null) {
                    keep(i, act);
                    kept++;
                }
            }
            System.arraycopy(other.notes, 0, notes, 0, notes.length);
            noted = other.noted;
            System.arraycopy(other.refusals, 0, refusals, 0, refusals.length);
        }
    }

    /** Works out what comes, what would come and what can have been, on rows of its own. */
    static final class Foresight {
        private static final int FURTHEST = 100;
        private static final int NAMED = 0;
        private static final int HARMLESS = 1;
        private static final int CHANGED = 2;
        private static final int FIRST = 3;

        final Processor processor = new Processor();
        private final Row probe = new Row();
        private final Row base = new Row();
        private final int[] told = new int[4];
        private int seed;

        Row behind(Row now, int many) {
            probe.become(now);
            for (int step = 0; step < many && probe.running(); step++) {
                processor.step(probe);
            }
            return probe;
        }

        int firstFault(Row now, int kind) {
            probe.become(now);
            for (int step = 1; step <= FURTHEST && probe.running(); step++) {
                if (processor.step(probe) == kind) {
                    return step;
                }
            }
            return NONE;
        }

        int firstRest(Row now) {
            probe.become(now);
            for (int step = 0; step <= FURTHEST; step++) {
                if (!probe.running()) {
                    return step;
                }
                processor.step(probe);
            }
            return NONE;
        }

        int firstChange(Row now, int place) {
            probe.become(now);
            for (int step = 1; step <= FURTHEST && probe.running(); step++) {
                processor.step(probe);
                if (probe.cell(place) != now.cell(place)) {
                    return step;
                }
            }
            return NONE;
        }

        int firstReturn(Row now) {
            probe.become(now);
            for (int step = 1; step <= FURTHEST; step++) {
                if (probe.running()) {
                    processor.step(probe);
                }
                if (probe.alike(now, Row.TIME, NONE)) {
                    return step;
                }
            }
            return NONE;
        }

        int spoil(Row now, int place, int length, int many, int what) {
            clearTold();
            base.become(now);
            boolean sound = runToFault(base, many) == 0;
            for (int index = 2 * place; index < 2 * (place + length); index++) {
                for (int number = 0; number < 16; number++) {
                    if (number != now.half(index)) {
                        probe.become(now);
                        probe.putHalf(index, number);
                        int kind = runToFault(probe, many);
                        judge(index, number, verdict(index, kind, sound));
                    }
                }
            }
            return told(what);
        }

        /** Goes on up to the first FAULT, and answers its kind. */
        private int runToFault(Row row, int many) {
            int kind = 0;
            for (int step = 0; step < many && row.running() && kind == 0; step++) {
                kind = processor.step(row);
            }
            return kind;
        }

        private int verdict(int index, int kind, boolean sound) {
            boolean told = kind == Processor.HALF || kind == Processor.ZEROS;
            if (told && probe.cell(Row.WHY + 6) == index >> 1 && probe.cell(Row.WHY + 7) == (index & 1)) {
                return NAMED;
            }
            return kind == 0 && sound && probe.alike(base, Row.OLD, index >> 1) ? HARMLESS : CHANGED;
        }

        private void judge(int index, int number, int verdict) {
            told[verdict]++;
            if (verdict == CHANGED && told[FIRST] == NONE) {
                told[FIRST] = 100 * index + number;
            }
        }

        int blame(Desk desk, int place, int length, int what) {
            clearTold();
            told[1] = NONE;
            Row now = desk.now;
            for (int index = 2 * place; index < 2 * (place + length); index++) {
                for (int number = 0; number < 16; number++) {
                    probe.become(now);
                    probe.putHalf(index, number);
                    if (number != now.half(index) && bears(desk)) {
                        told[0]++;
                        told[1] = told[1] == NONE ? 100 * index + number : told[1];
                    }
                }
            }
            probe.become(now);
            told[2] = bears(desk) ? 1 : 0;
            return told(what);
        }

        private boolean bears(Desk desk) {
            boolean going = true;
            int latest = desk.latestNote();
            for (int steps = 0; steps <= latest && steps <= Desk.LATEST_NOTE; steps++) {
                if (!desk.bears(probe, steps)) {
                    return false;
                }
                if (going && steps < latest && probe.running()) {
                    going = processor.step(probe) == 0;
                }
            }
            return true;
        }

        int age(Row now, int from, int years, int what) {
            clearTold();
            probe.become(now);
            seed = from;
            for (int year = 0; year < years; year++) {
                happen();
                for (int step = 0; step < 5 && probe.running(); step++) {
                    if (processor.step(probe) != 0) {
                        told[0]++;
                    }
                }
            }
            told[2] = probe.unlike(now);
            return told(what);
        }

        private void happen() {
            int happening = draw(3);
            if (happening == 0) {
                int place = draw(Row.PLACES);
                int number = draw(256);
                probe.put(place, number);
            } else if (happening == 1 && !probe.running()) {
                processor.restart(probe);
                told[1]++;
            }
        }

        private int draw(int n) {
            seed = seed * 1103515245 + 12345;
            return n > 0 ? (seed >>> 16 & 32767) % n : 0;
        }

        private void clearTold() {
            told[0] = 0;
            told[1] = 0;
            told[2] = 0;
            told[FIRST] = NONE;
        }

        private int told(int what) {
            return what >= 0 && what < told.length ? told[what] : NONE;
        }
    }
}
