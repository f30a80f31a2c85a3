import java.math.BigInteger;
import java.util.ArrayList;
import java.util.Arrays;
import java.util.HashMap;
import java.util.List;
import java.util.Map;
import java.util.NoSuchElementException;
import java.util.regex.Matcher;
import java.util.regex.Pattern;

/**
 * The document told a second time, by big integers, hex texts and copies of everything, so that the
 * class can be compared with it. It is slow and shares no code with the class.
 */
final class Model {
    private static final List<String> INSTRUCTIONS = Arrays.asList("pack", "unpack", "offset", "move", "add",
            "sub", "compare", "mul", "div", "copy", "digits", "zones", "edit", "mark", "shift", "test", "bin",
            "dec", "load", "plus", "count", "on", "guard", "back", "halt");
    private static final List<String> OTHERS = Arrays.asList("at", "packed", "zoned", "in");

    static final class Operation {
        String word;
        String label;
        int[] a;
        int[] b;
        int register;
        int number;
        int rounding;
        String name;
        int namePlace;
        int target = -1;
    }

    static final class TextFault extends RuntimeException {
        private static final long serialVersionUID = 1;
        final int kind;
        final int place;

        TextFault(int kind, int place) {
            this.kind = kind;
            this.place = place;
        }
    }

    static final class StepFault extends RuntimeException {
        private static final long serialVersionUID = 1;
        final int kind;
        final int[] cause;

        StepFault(int kind, int... cause) {
            this.kind = kind;
            this.cause = cause;
        }
    }

    /** All that STEPS and ACTS change. */
    static final class State {
        int[] store = new int[256];
        int[] registers = new int[8];
        int[] guards = new int[9];
        int cc;
        int next;
        int old = -1;
        int state;
        int time;
        int faults;
        int[] why;
        List<Integer> trace = new ArrayList<>();
        Map<Integer, Integer> done = new HashMap<>();

        State copy() {
            State other = new State();
            other.store = store.clone();
            other.registers = registers.clone();
            other.guards = guards.clone();
            other.cc = cc;
            other.next = next;
            other.old = old;
            other.state = state;
            other.time = time;
            other.faults = faults;
            other.why = why;
            other.trace = new ArrayList<>(trace);
            other.done = new HashMap<>(done);
            return other;
        }

        String told() {
            return Arrays.toString(store) + Arrays.toString(registers) + Arrays.toString(guards) + cc + "," + next
                    + "," + old + "," + state;
        }

        String hex(int place, int length) {
            StringBuilder row = new StringBuilder();
            for (int i = 0; i < length; i++) {
                row.append(String.format("%02x", store[place + i]));
            }
            return row.toString();
        }

        void lay(int place, String hex) {
            for (int i = 0; i < hex.length() / 2; i++) {
                store[place + i] = Integer.parseInt(hex.substring(2 * i, 2 * i + 2), 16);
            }
        }
    }

    private final List<Integer> tape = new ArrayList<>();
    private int faultPlace = -1;
    private List<Operation> listing = new ArrayList<>();
    private int[] first = new int[256];
    private State now = new State();
    private List<State> acts = new ArrayList<>();
    private List<int[]> notes = new ArrayList<>();
    private int[] refused = new int[3];
    private Object[] image;
    private int lastKind;
    private int[] lastCause;

    Model() {
        restart(now);
    }

    // ---------------------------------------------------------------- the TEXT

    int feed(int... numbers) {
        if (tape.size() + 20 > 700) {
            return -1;
        }
        for (int number : numbers) {
            for (int shift = 24; shift >= 0; shift -= 8) {
                tape.add(number >> shift & 0xff);
            }
        }
        return tape.size();
    }

    int program(int n) {
        if (n < 0 || n > tape.size()) {
            throw new IllegalArgumentException();
        }
        StringBuilder text = new StringBuilder();
        for (int i = 0; i < n; i++) {
            text.append((char) (int) tape.get(i));
        }
        tape.clear();
        try {
            Reader reader = new Reader(text.toString());
            reader.read();
            listing = reader.operations;
            first = reader.laid;
        } catch (TextFault fault) {
            faultPlace = fault.place;
            refused[0]++;
            return fault.kind;
        }
        faultPlace = -1;
        now = new State();
        restart(now);
        acts.clear();
        notes.clear();
        image = null;
        return 0;
    }

    private void restart(State state) {
        state.store = first.clone();
        state.registers = new int[8];
        state.guards = new int[9];
        Arrays.fill(state.guards, -1);
        state.cc = 0;
        state.next = 0;
        state.old = -1;
        state.state = listing.isEmpty() ? 1 : 0;
    }

    private static final class Reader {
        final List<Operation> operations = new ArrayList<>();
        final int[] laid = new int[256];
        private final List<String> tokens = new ArrayList<>();
        private final List<Integer> places = new ArrayList<>();
        private int i;

        Reader(String text) {
            Matcher matcher = Pattern.compile("[ \\n]+|[a-z]+|[0-9]+|#[0-9a-f]+|.", Pattern.DOTALL).matcher(text);
            while (matcher.find()) {
                if (!matcher.group().matches("[ \\n]+")) {
                    tokens.add(matcher.group());
                    places.add(matcher.start());
                }
            }
            tokens.add("");
            places.add(text.length());
        }

        void read() {
            while (!token().isEmpty()) {
                if (token().equals("at")) {
                    i++;
                    laying();
                } else {
                    labelled();
                }
                expect(";");
            }
            for (Operation operation : operations) {
                if (operation.name != null) {
                    operation.target = find(operation.name);
                    if (operation.target < 0) {
                        throw new TextFault(3, operation.namePlace);
                    }
                }
            }
        }

        private String token() {
            return tokens.get(i);
        }

        private TextFault fault(int kind) {
            return new TextFault(kind, places.get(i));
        }

        private void expect(String sign) {
            if (!token().equals(sign)) {
                throw fault(1);
            }
            i++;
        }

        private int find(String name) {
            for (int j = 0; j < operations.size(); j++) {
                if (name.equals(operations.get(j).label)) {
                    return j;
                }
            }
            return -1;
        }

        private int number(int least, int most) {
            if (!token().matches("[0-9]+")) {
                throw fault(1);
            }
            BigInteger value = new BigInteger(token());
            if (value.compareTo(BigInteger.valueOf(least)) < 0 || value.compareTo(BigInteger.valueOf(most)) > 0) {
                throw fault(2);
            }
            i++;
            return value.intValue();
        }

        private String name() {
            if (!token().matches("[a-z]+") || INSTRUCTIONS.contains(token()) || OTHERS.contains(token())) {
                throw fault(1);
            }
            if (token().length() > 8) {
                throw fault(2);
            }
            return token();
        }

        private void laying() {
            int place = number(0, 255);
            if (token().matches("#[0-9a-f]+")) {
                String hex = token().substring(1);
                if (hex.length() % 2 == 1 || place + hex.length() / 2 > 256) {
                    throw fault(2);
                }
                put(place, hex);
                i++;
                return;
            }
            boolean zoned = token().equals("zoned");
            if (!zoned && !token().equals("packed")) {
                throw fault(1);
            }
            i++;
            String sign = "c";
            if (token().equals("-")) {
                sign = "d";
                i++;
            }
            String digits = token();
            if (!digits.matches("[0-9]+")) {
                throw fault(1);
            }
            i++;
            expect("in");
            int before = i;
            int length = number(1, 16);
            int room = zoned ? length : 2 * length - 1;
            if (digits.length() > room || place + length > 256) {
                i = before;
                throw fault(2);
            }
            while (digits.length() < room) {
                digits = "0" + digits;
            }
            StringBuilder hex = new StringBuilder();
            if (zoned) {
                for (int j = 0; j < room; j++) {
                    hex.append(j == room - 1 ? sign : "f").append(digits.charAt(j));
                }
            } else {
                hex.append(digits).append(sign);
            }
            put(place, hex.toString());
        }

        private void put(int place, String hex) {
            for (int j = 0; j < hex.length() / 2; j++) {
                laid[place + j] = Integer.parseInt(hex.substring(2 * j, 2 * j + 2), 16);
            }
        }

        private void labelled() {
            String label = null;
            if (token().matches("[a-z]+") && !INSTRUCTIONS.contains(token()) && !OTHERS.contains(token())) {
                label = name();
                if (find(label) >= 0) {
                    throw fault(4);
                }
                i++;
                expect(":");
            }
            if (!INSTRUCTIONS.contains(token())) {
                throw fault(1);
            }
            if (operations.size() == 60) {
                throw fault(2);
            }
            Operation operation = new Operation();
            operation.word = token();
            operation.label = label;
            operations.add(operation);
            i++;
            operands(operation);
        }

        private void operands(Operation operation) {
            String word = operation.word;
            if (isOne(word, "pack unpack offset move add sub compare mul div")) {
                operation.a = field(16);
                operation.b = field(16);
            } else if (isOne(word, "copy digits zones edit mark")) {
                operation.a = field(64);
                operation.b = address();
            } else if (word.equals("shift")) {
                operation.a = field(16);
                boolean minus = minus();
                operation.number = number(0, minus ? 32 : 31) * (minus ? -1 : 1);
                operation.rounding = number(0, 9);
            } else if (word.equals("test")) {
                operation.a = field(16);
            } else if (isOne(word, "bin dec load")) {
                operation.register = register();
                operation.a = address();
            } else if (word.equals("plus")) {
                operation.register = register();
                boolean minus = minus();
                operation.number = number(0, 9999) * (minus ? -1 : 1);
            } else if (word.equals("count")) {
                operation.register = register();
                target(operation);
            } else if (word.equals("on")) {
                operation.number = number(0, 15);
                target(operation);
            } else if (word.equals("guard")) {
                operation.number = number(1, 8);
                if (!token().equals(";")) {
                    target(operation);
                }
            }
        }

        private boolean minus() {
            if (token().equals("-")) {
                i++;
                return true;
            }
            return false;
        }

        private void target(Operation operation) {
            operation.name = name();
            operation.namePlace = places.get(i);
            i++;
        }

        private int register() {
            expect("%");
            return number(0, 7);
        }

        private int[] address() {
            int place = number(0, 255);
            return new int[] {place, token().equals("%") ? register() : -1, 0};
        }

        private int[] field(int longest) {
            int[] field = address();
            expect(":");
            field[2] = number(1, longest);
            return field;
        }
    }

    // ---------------------------------------------------------------- the STEPS

    private int address(State state, int[] told) {
        return told[0] + (told[1] < 0 ? 0 : state.registers[told[1]]);
    }

    private static boolean inStore(long place, long length) {
        return place >= 0 && place + length <= 256;
    }

    /** Does a STEP; the kind of the FAULT stays in lastKind, its cause in lastCause. */
    private void step(State state) {
        lastKind = 0;
        int index = state.next;
        Operation operation = listing.get(index);
        State work = state.copy();
        work.next = index + 1;
        int overflow = 0;
        int[] cause = null;
        try {
            overflow = perform(work, operation);
            if (overflow != 0 && state.guards[6] >= 0) {
                lastKind = 6;
                cause = new int[] {0, address(state, operation.a), operation.a[2]};
            }
        } catch (StepFault fault) {
            lastKind = fault.kind;
            cause = fault.cause;
            work = state.copy();
        }
        lastCause = cause;
        if (lastKind == 0) {
            work.state = work.state == 1 || work.next >= listing.size() ? 1 : 0;
        } else if (state.guards[lastKind] >= 0) {
            work.next = state.guards[lastKind];
            work.old = index;
        } else {
            work.state = 2;
        }
        if (lastKind != 0) {
            int[] why = new int[3 + cause.length];
            why[0] = lastKind;
            why[1] = index;
            why[2] = state.time;
            System.arraycopy(cause, 0, why, 3, cause.length);
            work.why = why;
            work.faults++;
        }
        work.time++;
        work.trace.add(0, index);
        if (work.trace.size() > 64) {
            work.trace.remove(64);
        }
        work.done.merge(index, 1, Integer::sum);
        take(state, work);
    }

    private static void take(State to, State from) {
        State copy = from.copy();
        to.store = copy.store;
        to.registers = copy.registers;
        to.guards = copy.guards;
        to.cc = copy.cc;
        to.next = copy.next;
        to.old = copy.old;
        to.state = copy.state;
        to.time = copy.time;
        to.faults = copy.faults;
        to.why = copy.why;
        to.trace = copy.trace;
        to.done = copy.done;
    }

    private static boolean packed(String hex) {
        return hex.matches("[0-9]*[a-f]");
    }

    private static BigInteger value(String hex) {
        BigInteger digits = new BigInteger("0" + hex.substring(0, hex.length() - 1));
        return below(hex) ? digits.negate() : digits;
    }

    private static boolean below(String hex) {
        return hex.endsWith("b") || hex.endsWith("d");
    }

    private static String laid(BigInteger magnitude, boolean below, int length) {
        StringBuilder digits = new StringBuilder(magnitude.toString());
        while (digits.length() < 2 * length - 1) {
            digits.insert(0, '0');
        }
        return digits.substring(digits.length() - (2 * length - 1)) + (below ? "d" : "c");
    }

    private void mustBePacked(State state, int operand, int place, int length) {
        String hex = state.hex(place, length);
        for (int i = 0; i < hex.length(); i++) {
            boolean sign = i == hex.length() - 1;
            boolean letter = hex.charAt(i) >= 'a';
            if (sign != letter) {
                throw new StepFault(4, operand, place, length, place + i / 2, i % 2,
                        Character.digit(hex.charAt(i), 16));
            }
        }
    }

    private int store(State state, BigInteger number, int place, int length) {
        String digits = number.abs().toString();
        boolean cut = digits.length() > 2 * length - 1;
        state.lay(place, laid(number.abs(), number.signum() < 0, length));
        state.cc = cut ? 3 : number.signum() == 0 ? 0 : number.signum() < 0 ? 1 : 2;
        return cut ? 6 : 0;
    }

    /** Answers 6 by an overflow, else 0. */
    private int perform(State state, Operation operation) {
        String word = operation.word;
        int a = operation.a == null ? 0 : address(state, operation.a);
        int b = operation.b == null ? 0 : address(state, operation.b);
        int lengthA = operation.a == null ? 0 : operation.a[2];
        int lengthB = operation.b == null ? 0 : operation.b[2];
        if (word.equals("bin") || word.equals("dec")) {
            lengthA = 8;
        }
        if (isOne(word, "copy digits zones")) {
            lengthB = lengthA;
        }
        if (operation.a != null && !word.equals("load") && !inStore(a, lengthA)) {
            throw new StepFault(1, 0, a, lengthA);
        }
        if (operation.b != null && !word.equals("edit") && !word.equals("mark") && !inStore(b, lengthB)) {
            throw new StepFault(1, 1, b, lengthB);
        }
        boolean share = false;
        for (int place = a; place < a + lengthA; place++) {
            share |= place >= b && place < b + lengthB;
        }
        boolean sameEnd = a + lengthA == b + lengthB;
        switch (word) {
            case "pack": pack(state, a, lengthA, b, lengthB); return 0;
            case "unpack": unpack(state, a, lengthA, b, lengthB); return 0;
            case "offset": offset(state, a, lengthA, b, lengthB); return 0;
            case "copy": case "digits": case "zones":
                for (int i = 0; i < lengthA; i++) {
                    String old = state.hex(a + i, 1);
                    String from = state.hex(b + i, 1);
                    state.lay(a + i, word.equals("copy") ? from : word.equals("digits")
                            ? "" + old.charAt(0) + from.charAt(1) : "" + from.charAt(0) + old.charAt(1));
                }
                return 0;
            case "move":
                if (share && a + lengthA < b + lengthB) {
                    throw new StepFault(3, 1, b, lengthB);
                }
                mustBePacked(state, 1, b, lengthB);
                return store(state, value(state.hex(b, lengthB)), a, lengthA);
            case "add": case "sub": {
                if (share && !sameEnd) {
                    throw new StepFault(3, 1, b, lengthB);
                }
                mustBePacked(state, 0, a, lengthA);
                mustBePacked(state, 1, b, lengthB);
                BigInteger other = value(state.hex(b, lengthB));
                return store(state, value(state.hex(a, lengthA)).add(word.equals("add") ? other : other.negate()),
                        a, lengthA);
            }
            case "compare":
                mustBePacked(state, 0, a, lengthA);
                mustBePacked(state, 1, b, lengthB);
                state.cc = (value(state.hex(a, lengthA)).compareTo(value(state.hex(b, lengthB))) + 3) % 3;
                state.cc = state.cc == 0 ? 0 : state.cc == 2 ? 1 : 2;
                return 0;
            case "mul": case "div":
                if (lengthB > 8 || lengthB >= lengthA) {
                    throw new StepFault(2, 1, b, lengthB);
                }
                if (share && !sameEnd) {
                    throw new StepFault(3, 1, b, lengthB);
                }
                mustBePacked(state, 0, a, lengthA);
                mustBePacked(state, 1, b, lengthB);
                multiplyOrDivide(state, word, a, lengthA, b, lengthB);
                return 0;
            case "shift": {
                mustBePacked(state, 0, a, lengthA);
                BigInteger number = value(state.hex(a, lengthA));
                if (operation.number >= 0) {
                    return store(state, number.multiply(BigInteger.TEN.pow(operation.number)), a, lengthA);
                }
                return store(state, shiftedRight(number, -operation.number, operation.rounding), a, lengthA);
            }
            case "edit": case "mark": edit(state, word, a, lengthA, b); return 0;
            case "bin": {
                mustBePacked(state, 0, a, 8);
                BigInteger number = value(state.hex(a, 8));
                if (number.bitLength() > 31) {
                    throw new StepFault(8, 0, a, 8);
                }
                state.registers[operation.register] = number.intValue();
                return 0;
            }
            case "dec": {
                BigInteger number = BigInteger.valueOf(state.registers[operation.register]);
                state.lay(a, laid(number.abs(), number.signum() < 0, 8));
                return 0;
            }
            case "load": state.registers[operation.register] = a; return 0;
            case "plus": state.registers[operation.register] += operation.number; return 0;
            case "test": {
                String hex = state.hex(a, lengthA);
                boolean sign = hex.matches(".*[a-f]");
                boolean digits = hex.matches("[0-9]*.");
                state.cc = sign ? digits ? 0 : 2 : digits ? 1 : 3;
                return 0;
            }
            case "count":
                if (--state.registers[operation.register] != 0) {
                    state.next = operation.target;
                }
                return 0;
            case "on":
                if ((operation.number & new int[] {8, 4, 2, 1}[state.cc]) != 0) {
                    state.next = operation.target;
                }
                return 0;
            case "guard": state.guards[operation.number] = operation.target; return 0;
            case "back":
                if (state.old >= 0) {
                    state.next = state.old + 1;
                }
                return 0;
            case "halt": state.state = 1; return 0;
            default: throw new IllegalStateException(word);
        }
    }

    private static boolean isOne(String word, String words) {
        return Arrays.asList(words.split(" ")).contains(word);
    }

    private static BigInteger shiftedRight(BigInteger number, int n, int r) {
        if (n == 0) {
            return number;
        }
        BigInteger[] parts = number.abs().divideAndRemainder(BigInteger.TEN.pow(n));
        BigInteger last = parts[1].divide(BigInteger.TEN.pow(n - 1));
        BigInteger stays = last.intValue() + r > 9 ? parts[0].add(BigInteger.ONE) : parts[0];
        return number.signum() < 0 ? stays.negate() : stays;
    }

    private void multiplyOrDivide(State state, String word, int a, int lengthA, int b, int lengthB) {
        String hexA = state.hex(a, lengthA);
        String hexB = state.hex(b, lengthB);
        BigInteger one = value(hexA).abs();
        BigInteger two = value(hexB).abs();
        boolean below = below(hexA) != below(hexB);
        if (word.equals("mul")) {
            for (int i = 0; i < 2 * lengthB; i++) {
                if (hexA.charAt(i) != '0') {
                    throw new StepFault(5, 0, a, lengthA, a + i / 2, i % 2, hexA.charAt(i) - '0');
                }
            }
            state.lay(a, laid(one.multiply(two), below, lengthA));
            return;
        }
        int room = lengthA - lengthB;
        if (two.signum() == 0 || one.divide(two).toString().length() > 2 * room - 1) {
            throw new StepFault(7, 0, a, lengthA);
        }
        state.lay(a, laid(one.divide(two), below, room) + laid(one.mod(two), below(hexA), lengthB));
    }

    private static String turned(String hex) {
        return "" + hex.charAt(1) + hex.charAt(0);
    }

    private void pack(State state, int a, int lengthA, int b, int lengthB) {
        state.lay(a + lengthA - 1, turned(state.hex(b + lengthB - 1, 1)));
        int left = lengthB - 2;
        for (int i = lengthA - 2; i >= 0; i--) {
            char right = left >= 0 ? state.hex(b + left, 1).charAt(1) : '0';
            left--;
            char ahead = left >= 0 ? state.hex(b + left, 1).charAt(1) : '0';
            left--;
            state.lay(a + i, "" + ahead + right);
        }
    }

    private void unpack(State state, int a, int lengthA, int b, int lengthB) {
        state.lay(a + lengthA - 1, turned(state.hex(b + lengthB - 1, 1)));
        int left = lengthB - 2;
        for (int i = lengthA - 2; i >= 0; i -= 2) {
            String looked = left >= 0 ? state.hex(b + left, 1) : "00";
            left--;
            state.lay(a + i, "f" + looked.charAt(1));
            if (i > 0) {
                state.lay(a + i - 1, "f" + looked.charAt(0));
            }
        }
    }

    private void offset(State state, int a, int lengthA, int b, int lengthB) {
        String row = state.hex(a + lengthA - 1, 1).substring(1);
        int left = lengthB - 1;
        for (int i = lengthA - 1; i >= 0; i--) {
            String looked = left >= 0 ? state.hex(b + left, 1) : "00";
            left--;
            row = looked + row;
            state.lay(a + i, row.substring(row.length() - 2));
            row = row.substring(0, row.length() - 2);
        }
    }

    private void edit(State state, String word, int a, int length, int b) {
        String fill = state.hex(a, 1);
        boolean seen = false;
        boolean nonZero = false;
        int source = b;
        String waiting = "";
        int byteAt = 0;
        for (int place = a; place < a + length; place++) {
            int told = state.store[place];
            if (told == 32 || told == 33) {
                boolean positive = false;
                char digit;
                if (waiting.isEmpty()) {
                    byteAt = source++;
                    if (byteAt < 0 || byteAt > 255) {
                        throw new StepFault(1, 1, byteAt, 1);
                    }
                    String looked = state.hex(byteAt, 1);
                    digit = looked.charAt(0);
                    if (digit >= 'a') {
                        throw new StepFault(4, 1, byteAt, 1, byteAt, 0, Character.digit(digit, 16));
                    }
                    if (looked.charAt(1) >= 'a') {
                        positive = "acef".indexOf(looked.charAt(1)) >= 0;
                    } else {
                        waiting = looked.substring(1);
                    }
                } else {
                    digit = waiting.charAt(0);
                    waiting = "";
                }
                if (digit != '0') {
                    nonZero = true;
                    if (!seen && word.equals("mark")) {
                        state.registers[1] = place;
                    }
                }
                state.lay(place, digit == '0' && !seen ? fill : "f" + digit);
                if (digit != '0' || told == 33) {
                    seen = true;
                }
                if (positive) {
                    seen = false;
                }
            } else if (told == 34) {
                state.lay(place, fill);
                seen = false;
                nonZero = false;
            } else if (!seen) {
                state.lay(place, fill);
            }
        }
        state.cc = !nonZero ? 0 : seen ? 1 : 2;
    }

    // ---------------------------------------------------------------- the questions

    int fault() {
        return faultPlace;
    }

    int count(int what) {
        int never = 0;
        for (int i = 0; i < listing.size(); i++) {
            never += now.done.getOrDefault(i, 0) == 0 ? 1 : 0;
        }
        int[] all = {now.time, now.state, now.next, now.cc, now.old, listing.size(), now.faults, never,
            now.trace.size(), acts.size(), notes.size(), tape.size(), refused[0], refused[1], refused[2]};
        if (what < 0 || what >= all.length) {
            throw new NoSuchElementException();
        }
        return all[what];
    }

    private static void need(boolean so) {
        if (!so) {
            throw new NoSuchElementException();
        }
    }

    private static void legal(boolean so) {
        if (!so) {
            throw new IllegalArgumentException();
        }
    }

    int at(int place) {
        need(place >= 0 && place < 256);
        return now.store[place];
    }

    int register(int which) {
        need(which >= 0 && which < 8);
        return now.registers[which];
    }

    int guard(int kind) {
        need(kind >= 1 && kind <= 8);
        return now.guards[kind];
    }

    int done(int instruction) {
        need(instruction >= 0 && instruction < listing.size());
        return now.done.getOrDefault(instruction, 0);
    }

    int trace(int i) {
        need(i >= 0 && i < now.trace.size());
        return now.trace.get(i);
    }

    int why(int level, int what) {
        need(now.why != null && level >= 0 && what >= 0 && what < 3 && level < 3);
        need(3 * level + what < now.why.length);
        return now.why[3 * level + what];
    }

    private List<Integer> flaws(int place, int length, boolean zoned) {
        List<Integer> flaws = new ArrayList<>();
        String hex = now.hex(place, length);
        for (int i = 0; i < hex.length(); i++) {
            String form = "[0-9]";
            if (zoned ? i == hex.length() - 2 : i == hex.length() - 1) {
                form = "[a-f]";
            } else if (zoned && i % 2 == 0) {
                form = "f";
            }
            if (!hex.substring(i, i + 1).matches(form)) {
                flaws.add(2 * place + i);
            }
        }
        return flaws;
    }

    int flaws(int place, int length, boolean zoned, int i) {
        legal(length >= 1 && length <= 64 && inStore(place, length));
        List<Integer> flaws = flaws(place, length, zoned);
        if (i == -1) {
            return flaws.size();
        }
        need(i >= 0 && i < flaws.size());
        return flaws.get(i);
    }

    private BigInteger fieldNumber(int place, int length, boolean zoned) {
        String hex = now.hex(place, length);
        if (!zoned) {
            return value(hex);
        }
        StringBuilder digits = new StringBuilder();
        for (int i = 1; i < hex.length(); i += 2) {
            digits.append(hex.charAt(i));
        }
        return value(digits.append(hex.charAt(hex.length() - 2)).toString());
    }

    long number(int place, int length, boolean zoned) {
        legal(length >= 1 && length <= 16 && inStore(place, length));
        need(flaws(place, length, zoned).isEmpty());
        BigInteger number = fieldNumber(place, length, zoned);
        if (number.abs().toString().length() > 18) {
            throw new ArithmeticException();
        }
        return number.longValueExact();
    }

    int need(int how, int place, int length, int otherPlace, int otherLength) {
        legal(how >= 0 && how <= 2);
        legal(length >= 1 && length <= 16 && inStore(place, length));
        legal(otherLength >= 1 && otherLength <= 16 && inStore(otherPlace, otherLength));
        need(packed(now.hex(place, length)) && packed(now.hex(otherPlace, otherLength)));
        BigInteger one = value(now.hex(place, length));
        BigInteger two = value(now.hex(otherPlace, otherLength));
        BigInteger result = how == 0 ? one.add(two) : how == 1 ? one.subtract(two) : one.multiply(two);
        int least = 1;
        while (result.abs().compareTo(BigInteger.TEN.pow(2 * least - 1)) >= 0) {
            least++;
        }
        return least;
    }

    int rounds(int place, int length, int n) {
        legal(n >= 1 && n <= 32 && length >= 1 && length <= 16 && inStore(place, length));
        need(packed(now.hex(place, length)));
        BigInteger number = value(now.hex(place, length));
        int bits = 0;
        for (int r = 0; r < 10; r++) {
            if (!shiftedRight(number, n, r).equals(shiftedRight(number, n, 0))) {
                bits += 1 << r;
            }
        }
        return bits;
    }

    long unedited(int pattern, int length, int place, int i) {
        legal(length >= 1 && length <= 32 && inStore(pattern, length) && inStore(place, length));
        int digits = 0;
        for (int j = 0; j < length; j++) {
            digits += now.store[pattern + j] == 32 || now.store[pattern + j] == 33 ? 1 : 0;
        }
        List<String> found = new ArrayList<>();
        sources(pattern, length, place, digits, "", found);
        if (i == -1) {
            return found.size();
        }
        need(!found.isEmpty() && i >= -2 && i < digits);
        return i == -2 ? found.get(0).charAt(digits) - 'a' : found.get(0).charAt(i) - '0';
    }

    /** Tries row by row, and leaves a row as soon as what it lays is another byte. */
    private void sources(int pattern, int length, int place, int digits, String row, List<String> found) {
        if (row.length() == digits) {
            for (String sign : new String[] {"a", "b"}) {
                if (lays(pattern, length, place, digits, row + sign)) {
                    found.add(row + sign);
                }
            }
            return;
        }
        for (char digit = '0'; digit <= '9'; digit++) {
            if (lays(pattern, length, place, digits, row + digit)) {
                sources(pattern, length, place, digits, row + digit, found);
            }
        }
    }

    private boolean lays(int pattern, int length, int place, int digits, String row) {
        int fill = now.store[pattern];
        boolean seen = false;
        int used = 0;
        for (int j = 0; j < length; j++) {
            int told = now.store[pattern + j];
            int lays = told;
            if (told == 32 || told == 33) {
                if (used == row.length()) {
                    return true;
                }
                char digit = row.charAt(used++);
                if (digit >= 'a') {
                    throw new IllegalStateException();
                }
                lays = digit == '0' && !seen ? fill : 240 + digit - '0';
                seen = seen || digit != '0' || told == 33;
                if (used == digits && row.length() > digits && row.charAt(digits) == 'a') {
                    seen = false;
                }
                if (used == digits && row.length() == digits) {
                    return lays == now.store[place + j];
                }
            } else if (told == 34) {
                lays = fill;
                seen = false;
            } else if (!seen) {
                lays = fill;
            }
            if (lays != now.store[place + j]) {
                return false;
            }
        }
        return true;
    }

    // ---------------------------------------------------------------- the ACTS

    private void act() {
        acts.add(now.copy());
        if (acts.size() > 40) {
            acts.remove(0);
        }
    }

    int steps(int many) {
        if (now.state != 0 || many < 1 || many > 50 || now.time + many > 20000) {
            refused[1]++;
            return -1;
        }
        act();
        int gone = 0;
        for (; gone < many && now.state == 0; gone++) {
            step(now);
        }
        return gone;
    }

    int lay(int place, int number) {
        if (place < 0 || place > 255 || number < 0 || number > 255 || now.store[place] == number) {
            refused[1]++;
            return -1;
        }
        act();
        int old = now.store[place];
        now.store[place] = number;
        return old;
    }

    boolean set(int register, int number) {
        if (register < 0 || register > 7 || now.registers[register] == number) {
            refused[1]++;
            return false;
        }
        act();
        now.registers[register] = number;
        return true;
    }

    int next(int instruction) {
        if (instruction < 0 || instruction > listing.size()) {
            refused[1]++;
            return -1;
        }
        act();
        now.next = instruction;
        now.state = instruction == listing.size() ? 1 : 0;
        return now.state;
    }

    int begin() {
        act();
        restart(now);
        return now.state;
    }

    int undo() {
        if (acts.isEmpty()) {
            return -1;
        }
        now = acts.remove(acts.size() - 1);
        return acts.size();
    }

    // ---------------------------------------------------------------- what comes

    private State after(int steps) {
        State probe = now.copy();
        for (int i = 0; i < steps; i++) {
            if (probe.state == 0) {
                step(probe);
            }
        }
        return probe;
    }

    int then(int steps, int place) {
        need(place >= 0 && place < 256);
        legal(steps >= 0 && steps <= 100);
        return after(steps).store[place];
    }

    int holds(int steps, int register) {
        need(register >= 0 && register < 8);
        legal(steps >= 0 && steps <= 100);
        return after(steps).registers[register];
    }

    int where(int steps, int what) {
        need(what >= 0 && what < 4);
        legal(steps >= 0 && steps <= 100);
        State then = after(steps);
        return new int[] {then.next, then.cc, then.state, then.faults}[what];
    }

    int faults(int kind) {
        need(kind >= 1 && kind <= 8);
        State probe = now.copy();
        for (int i = 1; i <= 100; i++) {
            lastKind = 0;
            if (probe.state == 0) {
                step(probe);
            }
            if (lastKind == kind) {
                return i;
            }
        }
        return -1;
    }

    int halts() {
        for (int i = 0; i <= 100; i++) {
            if (after(i).state != 0) {
                return i;
            }
        }
        return -1;
    }

    int changes(int place) {
        need(place >= 0 && place < 256);
        for (int i = 1; i <= 100; i++) {
            if (after(i).store[place] != now.store[place]) {
                return i;
            }
        }
        return -1;
    }

    int round() {
        for (int i = 1; i <= 100; i++) {
            if (after(i).told().equals(now.told())) {
                return i;
            }
        }
        return -1;
    }

    private static State spoiltBy(State from, int half, int number) {
        State spoilt = from.copy();
        String hex = spoilt.hex(half / 2, 1);
        String digit = Integer.toHexString(number);
        spoilt.lay(half / 2, half % 2 == 0 ? digit + hex.charAt(1) : hex.charAt(0) + digit);
        return spoilt;
    }

    private boolean toFault(State probe, int steps) {
        for (int i = 0; i < steps && probe.state == 0; i++) {
            step(probe);
            if (lastKind != 0) {
                return true;
            }
        }
        return false;
    }

    int spoilt(int place, int length, int steps, int what) {
        need(what >= 0 && what <= 3);
        legal(length >= 1 && length <= 3 && inStore(place, length) && steps >= 1 && steps <= 60);
        int[] counts = {0, 0, 0, -1};
        State base = now.copy();
        boolean baseFault = toFault(base, steps);
        for (int half = 2 * place; half < 2 * (place + length); half++) {
            for (int number = 0; number < 16; number++) {
                State probe = spoiltBy(now, half, number);
                if (probe.store[half / 2] == now.store[half / 2]) {
                    continue;
                }
                boolean fault = toFault(probe, steps);
                if (fault && (lastKind == 4 || lastKind == 5) && 2 * lastCause[3] + lastCause[4] == half) {
                    counts[0]++;
                    continue;
                }
                State one = probe.copy();
                State two = base.copy();
                one.store[half / 2] = 0;
                two.store[half / 2] = 0;
                boolean alike = Arrays.equals(one.store, two.store) && Arrays.equals(one.registers, two.registers)
                        && one.cc == two.cc && one.next == two.next;
                if (!fault && !baseFault && alike) {
                    counts[1]++;
                } else {
                    counts[2]++;
                    counts[3] = counts[3] < 0 ? 100 * half + number : counts[3];
                }
            }
        }
        return counts[what];
    }

    int note(int steps, int place, int number) {
        if (notes.size() == 8 || steps < 0 || steps > 60 || place < 0 || place > 255 || number < 0 || number > 255) {
            refused[2]++;
            return -1;
        }
        notes.add(new int[] {steps, place, number});
        return notes.size();
    }

    private boolean bears(State from) {
        for (int[] note : notes) {
            State probe = from.copy();
            toFault(probe, note[0]);
            if (probe.store[note[1]] != note[2]) {
                return false;
            }
        }
        return true;
    }

    int blamed(int place, int length, int what) {
        need(what >= 0 && what <= 2);
        legal(length >= 1 && length <= 3 && inStore(place, length));
        int found = 0;
        int firstFound = -1;
        for (int half = 2 * place; half < 2 * (place + length); half++) {
            for (int number = 0; number < 16; number++) {
                State spoilt = spoiltBy(now, half, number);
                if (!Arrays.equals(spoilt.store, now.store) && bears(spoilt)) {
                    found++;
                    firstFound = firstFound < 0 ? 100 * half + number : firstFound;
                }
            }
        }
        return what == 0 ? found : what == 1 ? firstFound : bears(now) ? 1 : 0;
    }

    void forget() {
        notes.clear();
    }

    private int seed;

    private int draw(int n) {
        seed = (int) ((long) seed * 1103515245L + 12345L);
        return (int) (Integer.toUnsignedLong(seed) / 65536 % 32768 % n);
    }

    int years(int from, int n, int what) {
        need(what >= 0 && what <= 2);
        legal(n >= 0 && n <= 20);
        seed = from;
        State probe = now.copy();
        int renewed = 0;
        for (int year = 0; year < n; year++) {
            int happening = draw(3);
            if (happening == 0) {
                int place = draw(256);
                probe.store[place] = draw(256);
            }
            if (happening == 1 && probe.state != 0) {
                restart(probe);
                renewed++;
            }
            for (int i = 0; i < 5 && probe.state == 0; i++) {
                step(probe);
            }
        }
        int unlike = 0;
        for (int place = 0; place < 256; place++) {
            unlike += probe.store[place] != now.store[place] ? 1 : 0;
        }
        return new int[] {probe.faults - now.faults, renewed, unlike}[what];
    }

    void image() {
        List<State> copies = new ArrayList<>();
        for (State act : acts) {
            copies.add(act.copy());
        }
        image = new Object[] {now.copy(), copies, new ArrayList<>(notes), refused.clone()};
    }

    @SuppressWarnings("unchecked")
    boolean restore() {
        if (image == null) {
            return false;
        }
        Object[] kept = image;
        now = ((State) kept[0]).copy();
        acts = new ArrayList<>();
        for (State act : (List<State>) kept[1]) {
            acts.add(act.copy());
        }
        notes = new ArrayList<>((List<int[]>) kept[2]);
        refused = ((int[]) kept[3]).clone();
        return true;
    }
}
