/** One INSTRUCTION over bytes from PLACE 0 on, behind a first one that makes CC 3. */
final class Bench {
    static final int LEAST = Integer.MIN_VALUE;
    static final int MOST = Integer.MAX_VALUE;

    private Bench() {
    }

    static String times(String piece, int many) {
        StringBuilder row = new StringBuilder();
        for (int i = 0; i < many; i++) {
            row.append(piece);
        }
        return row.toString();
    }

    /** A row of bytes that is as long as another one, this one at its end. */
    static String wide(String end, int bytes) {
        return times("0", 2 * bytes - end.length()) + end;
    }

    static NibbleEngine ready(String laid, String operation) {
        NibbleEngine x = Check.told("at 0 #" + laid + ";at 220 #a2;test 220:1;" + operation + ";halt;");
        x.steps(1);
        return x;
    }

    /** What stands from PLACE 0 on behind an INSTRUCTION without a FAULT, and CC (3 if it stays). */
    static NibbleEngine does(String laid, String operation, String due, int cc) {
        NibbleEngine x = ready(laid, operation);
        String what = operation + " over " + laid;
        Edge.due(what + " is done", 1, () -> x.steps(1));
        Edge.due(what + " has no FAULT", 0, () -> x.count(6));
        Edge.bytes(what, due, x, 0);
        Edge.due(what + ": CC", cc, () -> x.count(3));
        Edge.due(what + ": NEXT is the one behind it", 2, () -> x.count(2));
        onlyThis(what, x);
        return x;
    }

    /** What no INSTRUCTION without a FAULT changes, but 'guard' and 'halt'. */
    static void onlyThis(String what, NibbleEngine x) {
        Edge.due(what + ": TIME", 2, () -> x.count(0));
        Edge.due(what + ": it RUNS", 0, () -> x.count(1));
        Edge.due(what + ": no OLD", -1, () -> x.count(4));
        for (int kind = 1; kind <= 8; kind++) {
            int one = kind;
            Edge.due(what + ": GUARD " + kind, -1, () -> x.guard(one));
        }
    }

    /** The FAULT as WHY tells it (kind, operand, ADDRESS, LENGTH, the HALF); nothing is done. */
    static NibbleEngine fails(String laid, String operation, int... why) {
        NibbleEngine x = ready(laid, operation);
        String what = operation + " over " + laid;
        x.steps(1);
        blames(what, x, why);
        Edge.bytes(what + ": nothing is done", laid, x, 0);
        Edge.due(what + ": CC stays", 3, () -> x.count(3));
        Edge.due(what + ": NEXT stays", 1, () -> x.count(2));
        Edge.due(what + ": FAILED", 2, () -> x.count(1));
        for (int i = 0; i < 8; i++) {
            int which = i;
            Edge.due(what + ": REGISTER " + i + " stays", 0, () -> x.register(which));
        }
        return x;
    }

    /** One FAULT so far, and all that WHY tells of it. */
    static void blames(String what, NibbleEngine x, int... why) {
        Edge.due(what + ": one FAULT", 1, () -> x.count(6));
        Edge.due(what + ": the kind", why[0], () -> x.why(0, 0));
        for (int i = 1; i < why.length; i++) {
            int level = (i + 2) / 3;
            int asked = (i + 2) % 3;
            Edge.due(what + ": cause " + level + " " + asked, why[i], () -> x.why(level, asked));
        }
        if (why.length < 7) {
            Edge.none(what + ": no HALF", () -> x.why(2, 0));
        }
    }
}
