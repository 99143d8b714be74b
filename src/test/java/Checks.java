/** What the tests share: the document's numbers, the count of wrong answers, and scenes to begin from. */
abstract class Checks {
    static final int NONE = -1, BAD = -2, FULL = -3, LACKS = -4;
    static final int MISSING = 1, RING = 2, ZERO = 3, LACKING = 4, NO_ROOM = 5, DEEP = 6;
    static final int NUMBER = 0, OWN = 1, OF_CONTEXT = 2, OF_SUPER = 3, AT = 4;
    static final int PLUS = 5, LESS = 6, TIMES = 7, OVER = 8, IF = 9;
    /** Numbers that nothing has, whatever has been made. */
    static final int[] OUTSIDE = {-1, -2, -3, -4, 100, Integer.MIN_VALUE, Integer.MAX_VALUE};

    private static int answers = 0;
    private static int wrong = 0;

    static void due(String what, long got, long want) {
        answers++;
        if (got != want) {
            wrong++;
            System.out.println(what + " answered " + got + ", due is " + want);
        }
    }

    static void fail(String what) {
        wrong++;
        System.out.println(what);
    }

    static int wrongSoFar() {
        return wrong;
    }

    static void finish() {
        System.out.println(wrong == 0 ? answers + " answers are as due" : wrong + " are not as due");
        if (wrong != 0) {
            System.exit(1);
        }
    }

    static void dueFault(String what, Counted x, int fault, int d, int m) {
        due(what + ": failed(0)", x.failed(0), fault);
        due(what + ": failed(1)", x.failed(1), d);
        due(what + ": failed(2)", x.failed(2), m);
    }

    static void dueSteps(String what, Counted x, int... pairs) {
        due(what + ": count(6)", x.count(6), pairs.length / 2);
        for (int k = 0; k < pairs.length / 2; k++) {
            due(what + ": step(" + k + ", 0)", x.step(k, 0), pairs[2 * k]);
            due(what + ": step(" + k + ", 1)", x.step(k, 1), pairs[2 * k + 1]);
        }
        due(what + ": the step after the last", x.step(pairs.length / 2, 0), NONE);
        due(what + ": the step after the last", x.step(pairs.length / 2, 1), NONE);
    }

    static void dueType(String what, Counted x, int type, int constructor, int a, int b) {
        due(what + ": typeOf(" + type + ", 0)", x.typeOf(type, 0), constructor);
        due(what + ": typeOf(" + type + ", 1)", x.typeOf(type, 1), a);
        due(what + ": typeOf(" + type + ", 2)", x.typeOf(type, 2), b);
    }

    /** CONSTRUCTORS 0, 1, 2 with so many PLACES; TYPES 2 = C0, 3 = C1(2), 4 = C1(3). */
    static Counted scene() {
        Counted x = new Counted();
        for (int places = 0; places <= 2; places++) {
            x.constructor(places);
        }
        x.type(0, 0, 0);
        x.type(1, 2, 0);
        x.type(1, 3, 0);
        return x;
    }

    /** CLASSES 0 .. 6, each at any of the CLOSED TYPES 2 .. 11: enough for 60 DICTIONARIES. */
    static Counted wideScene() {
        Counted x = new Counted();
        x.constructor(0);
        x.constructor(1);
        x.type(0, 0, 0);
        for (int t = 3; t < 12; t++) {
            x.type(1, t - 1, 0);
        }
        for (int c = 0; c < 7; c++) {
            x.cls(1);
            x.instance(c, 0);
            x.instance(c, 1);
        }
        return x;
    }

    /** In a wideScene(): the DICTIONARIES from .. to - 1, none of which has PARTS. */
    static void fillDictionaries(Counted x, int from, int to) {
        for (int d = from; d < to; d++) {
            due("dictionary " + d, x.dictionary(d / 10, 2 + d % 10), d);
        }
    }

    /** Each MEMBER 0 at C1(t) needs the one at t; the chain has so many DICTIONARIES, 0 the longest. */
    static Counted chain(int length, int last) {
        Counted x = new Counted();
        x.constructor(0);
        x.constructor(1);
        x.type(0, 0, 0);
        x.cls(2);
        x.instance(0, 0);
        x.instance(0, 1);
        x.context(1, 0, 0);
        x.body(0, 0, last == NONE ? NONE : x.node(NUMBER, last, 0, 0));
        x.body(1, 0, x.node(OF_CONTEXT, 0, 0, 0));
        for (int t = 3; t < 2 + length; t++) {
            x.type(1, t - 1, 0);
        }
        x.dictionary(0, 1 + length);
        return x;
    }

    /** A NUMBER is an int, so a long is put together from its parts. */
    static int longNode(Counted x, long number) {
        int low = x.node(NUMBER, (int) (number & 0xFFFF), 0, 0);
        int middle = x.node(NUMBER, (int) (number >> 16 & 0xFFFF), 0, 0);
        int high = x.node(NUMBER, (int) (number >> 32), 0, 0);
        int by = x.node(NUMBER, 65536, 0, 0);
        int upper = x.node(PLUS, x.node(TIMES, high, by, 0), middle, 0);
        return x.node(PLUS, x.node(TIMES, upper, by, 0), low, 0);
    }

    /** CLASS 0 of four MEMBERS, with INSTANCES for C0, C1, C2, C3 and itself as CONTEXT of each PLACE. */
    static Counted sceneOfTwoChains() {
        Counted x = new Counted();
        int[] places = {0, 1, 2, 0};
        x.cls(4);
        for (int h = 0; h < 4; h++) {
            x.constructor(places[h]);
            x.instance(0, h);
            for (int place = 0; place < places[h]; place++) {
                x.context(h, 0, place);
            }
        }
        return x;
    }

    /** Makes 60 DICTIONARIES: 0 at C2 of two TYPES, then 1 .. 30 down to C0 and 31 .. 59 down to C3. */
    static void makeTwoChains(Counted x) {
        int left = x.type(0, 0, 0);
        for (int n = 1; n < 30; n++) {
            left = x.type(1, left, 0);
        }
        int right = x.type(3, 0, 0);
        for (int n = 1; n < 29; n++) {
            right = x.type(1, right, 0);
        }
        due("dictionary", x.dictionary(0, x.type(2, left, right)), 0);
        due("count(5)", x.count(5), 60);
    }
}
