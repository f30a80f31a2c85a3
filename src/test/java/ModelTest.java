import java.util.Random;

/** The class against the Model: random texts and random calls, by written seeds. */
public final class ModelTest {
    private static final String[] PACKS = {"pack", "unpack", "offset"};
    private static final String[] REACHED = {"move", "add", "sub", "compare", "mul", "div", "mul", "div"};
    private static final String[] MOVES = {"copy", "digits", "zones", "edit", "mark"};
    private static final String[] SPOILS = {"at", "in", ";", ":", "%", "-", "#", "#1", "#abc", "300", "17", "0", "add",
        "abcdefghi", "x", "zoned", "?", " ", "Q", "\t", "guard", "packed", "00000000000000000000000000000000001"};
    private static final String[] NAMES = {"p", "q", "loop", "abcdefgh", "halting", "ons"};

    private interface Call {
        long answer();
    }

    private final Random random;
    private final int seed;
    private NibbleEngine engine = new NibbleEngine();
    private Model model = new Model();
    private int calls;
    /** The lengths of the fields that a text lays, one every SLOT places. */
    private static final int SLOT = 17;
    /** So many of them are packed, most often; the others are moved to. */
    private static final int NUMBERS = 5;
    private final int[] lengths = new int[8];
    private static long compared;

    private ModelTest(int seed) {
        this.seed = seed;
        random = new Random(seed);
    }

    public static void main(String[] args) {
        int from = args.length > 0 ? Integer.parseInt(args[0]) : 0;
        int to = args.length > 1 ? Integer.parseInt(args[1]) : 1500;
        for (int seed = from; seed < to; seed++) {
            new ModelTest(seed).run();
        }
        System.out.println(compared + " answers compared");
        Check.end("ModelTest");
    }

    private void run() {
        int texts = 1 + random.nextInt(3);
        for (int i = 0; i < texts; i++) {
            program();
            int many = 20 + random.nextInt(60);
            for (int j = 0; j < many && calls < 500; j++) {
                call();
            }
            everything();
        }
    }

    private int pick(int n) {
        return random.nextInt(n);
    }

    private String pick(String[] words) {
        return words[pick(words.length)];
    }

    // ---------------------------------------------------------------- texts

    private void program() {
        StringBuilder text = new StringBuilder();
        for (int i = 0; i < lengths.length; i++) {
            lengths[i] = pick(3) == 0 ? 1 + pick(16) : 1 + pick(5);
            lengths[i] = i == 4 && pick(2) == 0 ? 8 : lengths[i];
            if (i < NUMBERS ? pick(12) > 0 : pick(3) > 0) {
                text.append("at ").append(SLOT * i).append(' ').append(laying(i, lengths[i])).append(';');
            }
        }
        int lines = 1 + pick(14);
        boolean[] labelled = new boolean[NAMES.length];
        for (int i = 0; i < lines; i++) {
            text.append(line(labelled));
        }
        for (int i = 0; i < NAMES.length; i++) {
            if (!labelled[i] && text.indexOf(" " + NAMES[i]) >= 0 && pick(40) > 0) {
                text.append(NAMES[i]).append(pick(2) == 0 ? ":back;" : pick(2) == 0 ? " : halt ;" : ":" + operation() + ";");
            }
        }
        String whole = pick(6) == 0 ? spoil(text.toString()) : text.toString();
        whole = whole.length() > 700 ? whole.substring(0, 700) : whole;
        String told = whole;
        Check.feed(engine, told);
        feedModel(told);
        int n = pick(40) == 0 ? told.length() - pick(5) : told.length();
        same("program '" + told + "' " + n, () -> engine.program(n), () -> model.program(n));
        same("fault", () -> engine.fault(), () -> model.fault());
    }

    private void feedModel(String text) {
        for (int i = 0; i < text.length(); i += 20) {
            int[] numbers = new int[5];
            for (int j = 0; j < 20; j++) {
                numbers[j / 4] = numbers[j / 4] << 8 | (i + j < text.length() ? text.charAt(i + j) & 255 : 0);
            }
            model.feed(numbers);
        }
    }

    private String spoil(String text) {
        int place = pick(text.length() + 1);
        switch (pick(4)) {
            case 0: return text.substring(0, place);
            case 1: return text.substring(0, place) + pick(SPOILS) + text.substring(place);
            case 2: return text.substring(0, place) + (char) pick(256) + text.substring(Math.min(place + 1, text.length()));
            default: return text.substring(0, place) + text.substring(Math.min(place + 1 + pick(3), text.length()));
        }
    }

    private int slot() {
        return pick(lengths.length);
    }

    private int place() {
        return pick(20) == 0 ? 240 + pick(16) : SLOT * slot() + (pick(3) == 0 ? pick(5) : 0);
    }

    private String address(int place) {
        return place + (pick(8) == 0 ? "%" + pick(3) : "");
    }

    private String field(int slot, int longest) {
        if (pick(8) == 0) {
            return address(place()) + ":" + (pick(3) == 0 ? 1 + pick(longest) : 1 + pick(4));
        }
        int cut = pick(5) == 0 ? pick(lengths[slot]) : 0;
        return address(SLOT * slot + cut) + ":" + (lengths[slot] - cut);
    }

    private String numberField() {
        return field(pick(NUMBERS), 16);
    }

    private String movedField(int longest) {
        return field(pick(5) == 0 ? slot() : NUMBERS + pick(lengths.length - NUMBERS), longest);
    }

    /** A field and one that ends at the same byte or begins near it. */
    private String near() {
        int slot = pick(NUMBERS);
        int length = lengths[slot];
        int other = 1 + pick(length);
        return SLOT * slot + ":" + length + " " + (pick(2) == 0 ? SLOT * slot + length - other : SLOT * slot + pick(3)) + ":" + other;
    }

    private String line(boolean[] labelled) {
        if (pick(12) == 0) {
            return "at " + place() + " " + laying(slot(), 1 + pick(6)) + ";";
        }
        int name = pick(NAMES.length);
        String label = "";
        if (pick(6) == 0 && (!labelled[name] || pick(12) == 0)) {
            labelled[name] = true;
            label = NAMES[name] + ":";
        }
        return label + operation() + ";" + (pick(5) == 0 ? "\n " : "");
    }

    private String laying(int slot, int length) {
        String minus = pick(3) == 0 ? "-" : "";
        switch (slot < NUMBERS ? 2 + pick(8) : pick(4)) {
            case 0: case 3: return hex();
            case 1: return "zoned " + minus + digits(1 + pick(length)) + " in " + length;
            default: return "packed " + minus + digits(1 + pick(pick(2) == 0 ? length : 2 * length - 1)) + " in " + length;
        }
    }

    private String hex() {
        StringBuilder row = new StringBuilder("#");
        int bytes = 1 + pick(8);
        String[] likely = {"20", "20", "21", "22", "40", "4b", "5c", "0c", "1d", "6b", "f0", "f3", "12", "00"};
        for (int i = 0; i < bytes; i++) {
            row.append(pick(4) > 0 ? pick(likely) : String.format("%02x", pick(256)));
        }
        return row.toString();
    }

    private String digits(int many) {
        StringBuilder row = new StringBuilder();
        boolean round = pick(3) == 0;
        for (int i = 0; i < many; i++) {
            row.append(round && i > 0 ? pick(2) * 9 : pick(10));
        }
        return row.toString();
    }

    private String operation() {
        switch (pick(16)) {
            case 0: case 1: case 2: case 3: return pick(REACHED) + " " + numberField() + " " + numberField();
            case 4: return pick(PACKS) + " " + movedField(16) + " " + field(slot(), 16);
            case 5: return (pick(2) == 0 ? pick(REACHED) : pick(PACKS)) + " " + near();
            case 6: case 7: return pick(MOVES) + " " + movedField(64) + " " + address(place());
            case 8: return pick(2) == 0 ? "shift " + numberField() + " " + pick(6) + " " + pick(10)
                    : "shift " + numberField() + " - " + pick(33) % (1 + pick(33)) + " " + pick(10);
            case 9: return "test " + field(slot(), 16);
            case 10: return pick(2) == 0 ? "bin %" + pick(3) + " " + (pick(3) == 0 ? address(place()) : SLOT * 4)
                    : "load %" + pick(3) + " " + address(place());
            case 11: return pick(3) == 0 ? "dec %" + pick(3) + " " + (pick(3) == 0 ? address(place()) : SLOT * 4)
                    : "plus %" + pick(3) + (pick(2) == 0 ? " -" : " ") + (pick(4) == 0 ? pick(9999) : pick(9));
            case 12: return pick(2) == 0 ? "count %" + pick(3) + " " + pick(NAMES) : "on " + pick(16) + " " + pick(NAMES);
            case 13: return "guard " + (1 + pick(8)) + (pick(5) == 0 ? "" : " " + pick(NAMES));
            default: return pick(8) == 0 ? "halt" : pick(3) == 0 ? "back" : pick(REACHED) + " " + numberField() + " " + numberField();
        }
    }

    // ---------------------------------------------------------------- calls

    private int about(int low, int high) {
        return pick(12) == 0 ? pick(2) == 0 ? low - 1 - pick(2) : high + 1 + pick(2) : low + pick(high - low + 1);
    }

    /** Most often a place where something is laid. */
    private int somewhere() {
        return pick(10) == 0 ? about(0, 255) : place();
    }

    private int longAt(int place) {
        return pick(4) > 0 && place % SLOT == 0 && place / SLOT < lengths.length && place >= 0 ? lengths[place / SLOT]
                : pick(2) == 0 ? about(1, 16) : 1 + pick(5);
    }

    private void call() {
        int a = somewhere();
        int b = somewhere();
        int length = longAt(a);
        int small = about(1, 3);
        int what = about(0, 3);
        int steps = pick(3) > 0 ? about(0, 20) : about(0, 100);
        int number = about(0, 255);
        boolean flag = pick(2) == 0;
        if (model.count(1) != 0 && pick(3) == 0) {
            int resumed = pick(model.count(5) + 1);
            same("next " + resumed, () -> engine.next(resumed), () -> model.next(resumed));
        }
        switch (pick(32)) {
            case 0: case 1: case 2: {
                int many = pick(2) > 0 ? 1 + pick(4) : about(1, 50);
                same("steps " + many, () -> engine.steps(many), () -> model.steps(many));
                break;
            }
            case 3: {
                int byteOf = pick(2) == 0 ? number : new int[] {12, 13, 32, 33, 0, 28, 0x1d, 0x22}[pick(8)];
                same("lay " + a + " " + byteOf, () -> engine.lay(a, byteOf), () -> model.lay(a, byteOf));
                break;
            }
            case 4: {
                int which = about(0, 7) % 9;
                int held = pick(5) == 0 ? random.nextInt() : pick(12) - 3;
                same("set " + which + " " + held, () -> engine.set(which, held) ? 1 : 0, () -> model.set(which, held) ? 1 : 0);
                break;
            }
            case 5: {
                int to = pick(8) - 1;
                same("next " + to, () -> engine.next(to), () -> model.next(to));
                break;
            }
            case 6: same("begin", () -> engine.begin(), () -> model.begin()); break;
            case 7: same("undo", () -> engine.undo(), () -> model.undo()); break;
            case 8: same("then " + steps + " " + a, () -> engine.then(steps, a), () -> model.then(steps, a)); break;
            case 9: {
                int which = about(0, 7);
                same("holds " + steps + " " + which, () -> engine.holds(steps, which), () -> model.holds(steps, which));
                break;
            }
            case 10: same("where " + steps + " " + what, () -> engine.where(steps, what), () -> model.where(steps, what)); break;
            case 11: {
                int kind = about(1, 8);
                same("faults " + kind, () -> engine.faults(kind), () -> model.faults(kind));
                break;
            }
            case 12: same("halts", () -> engine.halts(), () -> model.halts()); break;
            case 13: same("changes " + a, () -> engine.changes(a), () -> model.changes(a)); break;
            case 14: same("round", () -> engine.round(), () -> model.round()); break;
            case 15: {
                int many = pick(4) > 0 ? 1 + pick(6) : about(1, 60);
                same("spoilt " + a + " " + small + " " + many + " " + what,
                        () -> engine.spoilt(a, small, many, what), () -> model.spoilt(a, small, many, what));
                break;
            }
            case 16: case 17: note(); break;
            case 18: {
                int asked = what == 3 ? pick(30) == 0 ? 3 : 0 : what;
                same("blamed " + a + " " + small + " " + asked,
                        () -> engine.blamed(a, small, asked), () -> model.blamed(a, small, asked));
                break;
            }
            case 19:
                if (pick(3) == 0) {
                    engine.forget();
                    model.forget();
                }
                break;
            case 20: {
                int seedOf = random.nextInt();
                int years = about(0, 20);
                same("years " + seedOf + " " + years + " " + what,
                        () -> engine.years(seedOf, years, what), () -> model.years(seedOf, years, what));
                break;
            }
            case 21:
                if (pick(2) == 0) {
                    engine.image();
                    model.image();
                }
                break;
            case 22:
                if (pick(2) == 0) {
                    same("restore", () -> engine.restore() ? 1 : 0, () -> model.restore() ? 1 : 0);
                }
                break;
            case 23: {
                int i = pick(2) == 0 ? -1 : pick(6) - 2;
                int most = pick(8) == 0 ? about(1, 64) : length;
                same("flaws " + a + " " + most + " " + flag + " " + i,
                        () -> engine.flaws(a, most, flag, i), () -> model.flaws(a, most, flag, i));
                break;
            }
            case 24: case 25: number(); break;
            case 26: case 27: need(); break;
            case 28: {
                int n = pick(3) > 0 ? 1 + pick(4) : about(1, 32);
                same("rounds " + a + " " + length + " " + n, () -> engine.rounds(a, length, n), () -> model.rounds(a, length, n));
                break;
            }
            case 29: case 30: {
                int i = pick(3) == 0 ? -1 : pick(6) - 3;
                int bytes = pick(3) == 0 ? pick(5) == 0 ? about(1, 32) : about(1, 9) : 1 + pick(6);
                int at = pick(3) == 0 ? a : b;
                same("unedited " + a + " " + bytes + " " + at + " " + i,
                        () -> engine.unedited(a, bytes, at, i), () -> model.unedited(a, bytes, at, i));
                break;
            }
            default: ask(); break;
        }
    }

    private void note() {
        int steps = pick(3) > 0 ? pick(6) : about(0, 60);
        int place = somewhere();
        int number = place >= 0 && place < 256 && pick(4) > 0 ? model.then(Math.max(0, Math.min(steps, 100)), place)
                : about(0, 255);
        same("note " + steps + " " + place + " " + number,
                () -> engine.note(steps, place, number), () -> model.note(steps, place, number));
    }

    private void number() {
        int place = somewhere();
        int length = longAt(place);
        boolean zoned = pick(3) == 0;
        same("number " + place + " " + length + " " + zoned,
                () -> engine.number(place, length, zoned), () -> model.number(place, length, zoned));
    }

    private void need() {
        int how = about(0, 2);
        int a = somewhere();
        int b = somewhere();
        int lengthA = longAt(a);
        int lengthB = longAt(b);
        same("need " + how + " " + a + " " + lengthA + " " + b + " " + lengthB,
                () -> engine.need(how, a, lengthA, b, lengthB), () -> model.need(how, a, lengthA, b, lengthB));
    }

    private void ask() {
        int i = pick(70) - 2;
        switch (pick(7)) {
            case 0: same("count " + i, () -> engine.count(i), () -> model.count(i)); break;
            case 1: same("at " + i * 4, () -> engine.at(i * 4), () -> model.at(i * 4)); break;
            case 2: same("register " + i, () -> engine.register(i), () -> model.register(i)); break;
            case 3: same("guard " + i, () -> engine.guard(i), () -> model.guard(i)); break;
            case 4: same("done " + i, () -> engine.done(i), () -> model.done(i)); break;
            case 5: same("trace " + i, () -> engine.trace(i), () -> model.trace(i)); break;
            default: same("why " + i / 4 + " " + i % 4, () -> engine.why(i / 4, i % 4), () -> model.why(i / 4, i % 4)); break;
        }
    }

    /** All that can be seen, at the end of a text's calls. */
    private void everything() {
        for (int i = -1; i < 257; i++) {
            int place = i;
            same("at " + i, () -> engine.at(place), () -> model.at(place));
        }
        for (int i = -1; i < 66; i++) {
            int which = i;
            same("count " + i, () -> engine.count(which), () -> model.count(which));
            same("register " + i, () -> engine.register(which), () -> model.register(which));
            same("guard " + i, () -> engine.guard(which), () -> model.guard(which));
            same("done " + i, () -> engine.done(which), () -> model.done(which));
            same("trace " + i, () -> engine.trace(which), () -> model.trace(which));
            same("why " + i, () -> engine.why(which / 4, which % 4), () -> model.why(which / 4, which % 4));
        }
    }

    private void same(String what, Call ours, Call due) {
        calls++;
        compared++;
        String one = outcome(ours);
        String two = outcome(due);
        if (!one.equals(two)) {
            Check.tell("seed " + seed + ", " + what + ": answered " + one + ", the model " + two);
        }
    }

    private static String outcome(Call call) {
        try {
            return String.valueOf(call.answer());
        } catch (RuntimeException e) {
            return e.getClass().getName();
        }
    }
}
