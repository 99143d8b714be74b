/** For each promise of the document: ordinary calls, the edges that it names, and wrong calls. */
public final class PromisesTest extends Checks {
    public static void main(String[] args) {
        newObject();
        constructors();
        types();
        classes();
        supers();
        instances();
        contexts();
        nodes();
        heights();
        bodies();
        standards();
        dictionaries();
        makingsThatFail();
        roomForDictionaries();
        lacks();
        parts();
        abouts();
        hanging();
        values();
        valuesOfAllParts();
        bodiesOfAllInstances();
        arithmetic();
        sidesOfIf();
        variablesPutIn();
        orderOfTypesPutIn();
        missing();
        rings();
        zero();
        faultsOfAt();
        deep();
        deepEdges();
        wantOfTypes();
        wantOfTypesKeepsWhatIsMade();
        wantOfDictionaries();
        reports();
        steps();
        begun();
        typesOf();
        counts();
        whatTakesDictionariesAway();
        refusalsChangeNothing();
        finish();
    }

    // Promise 1
    private static void newObject() {
        Counted x = new Counted();
        int[] counts = {0, 2, 0, 0, 0, 0, 0};
        for (int what = 0; what < counts.length; what++) {
            due("new: count(" + what + ")", x.count(what), counts[what]);
        }
        due("new: typeOf(0, 3)", x.typeOf(0, 3), 0);
        due("new: typeOf(1, 3)", x.typeOf(1, 3), 0);
        due("new: typeOf(2, 0)", x.typeOf(2, 0), BAD);
        due("new: lack(0)", x.lack(0), NONE);
        due("new: lack(1)", x.lack(1), NONE);
        dueFault("new", x, 0, NONE, NONE);
        dueSteps("new", x);
    }

    // Promise 2
    private static void constructors() {
        Counted x = new Counted();
        for (int places : OUTSIDE) {
            due("constructor(" + places + ")", x.constructor(places), BAD);
        }
        due("constructor(3)", x.constructor(3), BAD);
        for (int n = 0; n < 8; n++) {
            due("constructor " + n, x.constructor(n % 3), n);
        }
        due("a ninth constructor", x.constructor(0), FULL);
        due("BAD goes ahead of FULL", x.constructor(3), BAD);
        due("count(0)", x.count(0), 8);
    }

    // Promise 3
    private static void types() {
        Counted x = new Counted();
        due("type without constructors", x.type(0, 0, 0), BAD);
        x.constructor(0);
        x.constructor(1);
        x.constructor(2);
        due("type(0, -9, 99)", x.type(0, -9, 99), 2);
        due("type(0, 7, 7)", x.type(0, 7, 7), 2);
        due("type(1, 0, -9)", x.type(1, 0, -9), 3);
        due("type(1, 0, 99)", x.type(1, 0, 99), 3);
        due("type(2, 0, 1)", x.type(2, 0, 1), 4);
        due("type(2, 1, 0)", x.type(2, 1, 0), 5);
        due("type(2, 0, 1) again", x.type(2, 0, 1), 4);
        due("type(3, 0, 0)", x.type(3, 0, 0), BAD);
        for (int out : OUTSIDE) {
            due("type(" + out + ", 0, 0)", x.type(out, 0, 0), BAD);
            due("type(1, " + out + ", 0)", x.type(1, out, 0), BAD);
            due("type(2, " + out + ", 0)", x.type(2, out, 0), BAD);
            due("type(2, 0, " + out + ")", x.type(2, 0, out), BAD);
        }
        due("type(1, 6, 0)", x.type(1, 6, 0), BAD);
        due("type(2, 0, 6)", x.type(2, 0, 6), BAD);
        due("count(1)", x.count(1), 6);
        for (int n = 6; n < 80; n++) {
            due("type " + n, x.type(1, n - 1, 0), n);
        }
        due("a type more than 80", x.type(1, 79, 0), FULL);
        due("one that is there", x.type(1, 78, 0), 79);
        due("BAD goes ahead of FULL", x.type(1, 80, 0), BAD);
        due("count(1)", x.count(1), 80);
    }

    // Promise 4
    private static void classes() {
        Counted x = new Counted();
        for (int members : OUTSIDE) {
            due("cls(" + members + ")", x.cls(members), BAD);
        }
        due("cls(0)", x.cls(0), BAD);
        due("cls(5)", x.cls(5), BAD);
        for (int n = 0; n < 8; n++) {
            due("class " + n, x.cls(1 + n % 4), n);
        }
        due("a ninth class", x.cls(1), FULL);
        due("BAD goes ahead of FULL", x.cls(5), BAD);
        due("count(2)", x.count(2), 8);
        due("class 3 has member 3", x.standard(3, 3, NONE), 1);
        due("class 0 has no member 1", x.standard(0, 1, NONE), BAD);
    }

    // Promise 5
    private static void supers() {
        Counted x = new Counted();
        for (int n = 0; n < 6; n++) {
            x.cls(1);
        }
        due("superOf(5, 5)", x.superOf(5, 5), BAD);
        due("superOf(4, 5)", x.superOf(4, 5), BAD);
        due("superOf(0, 0)", x.superOf(0, 0), BAD);
        due("superOf(6, 0)", x.superOf(6, 0), BAD);
        for (int out : OUTSIDE) {
            due("superOf(" + out + ", 0)", x.superOf(out, 0), BAD);
            due("superOf(5, " + out + ")", x.superOf(5, out), BAD);
        }
        due("superOf(5, 4)", x.superOf(5, 4), 1);
        due("superOf(5, 0)", x.superOf(5, 0), 2);
        due("superOf(5, 4) again", x.superOf(5, 4), BAD);
        due("superOf(5, 2)", x.superOf(5, 2), 3);
        due("a fourth super", x.superOf(5, 1), FULL);
        due("BAD goes ahead of FULL", x.superOf(5, 0), BAD);
        due("BAD goes ahead of FULL", x.superOf(5, 6), BAD);
        due("superOf(4, 0)", x.superOf(4, 0), 1);
    }

    // Promise 6
    private static void instances() {
        Counted x = new Counted();
        for (int n = 0; n < 3; n++) {
            x.cls(1);
        }
        for (int n = 0; n < 7; n++) {
            x.constructor(0);
        }
        for (int out : OUTSIDE) {
            due("instance(" + out + ", 0)", x.instance(out, 0), BAD);
            due("instance(0, " + out + ")", x.instance(0, out), BAD);
        }
        due("instance(3, 0)", x.instance(3, 0), BAD);
        due("instance(0, 7)", x.instance(0, 7), BAD);
        for (int n = 0; n < 20; n++) {
            due("instance " + n, x.instance(n / 7, n % 7), n);
            due("instance " + n + " again", x.instance(n / 7, n % 7), BAD);
        }
        due("an instance more than 20", x.instance(2, 6), FULL);
        due("BAD goes ahead of FULL", x.instance(2, 5), BAD);
        due("BAD goes ahead of FULL", x.instance(3, 6), BAD);
        due("count(3)", x.count(3), 20);
    }

    // Promise 7
    private static void contexts() {
        Counted x = scene();
        x.cls(1);
        x.cls(1);
        x.instance(0, 0);
        x.instance(0, 1);
        x.instance(0, 2);
        due("no place", x.context(0, 0, 0), BAD);
        due("context(1, 0, 1)", x.context(1, 0, 1), BAD);
        due("context(2, 0, 2)", x.context(2, 0, 2), BAD);
        due("context(3, 0, 0)", x.context(3, 0, 0), BAD);
        due("context(1, 2, 0)", x.context(1, 2, 0), BAD);
        for (int out : OUTSIDE) {
            due("context(" + out + ", 0, 0)", x.context(out, 0, 0), BAD);
            due("context(1, " + out + ", 0)", x.context(1, out, 0), BAD);
            due("context(1, 0, " + out + ")", x.context(1, 0, out), BAD);
        }
        due("context(2, 1, 1)", x.context(2, 1, 1), 1);
        due("context(2, 1, 1) again", x.context(2, 1, 1), 2);
        due("context(2, 0, 0)", x.context(2, 0, 0), 3);
        due("a fourth context", x.context(2, 0, 1), FULL);
        due("BAD goes ahead of FULL", x.context(2, 0, 2), BAD);
        due("context(1, 1, 0)", x.context(1, 1, 0), 1);
    }

    // Promise 8
    private static void nodes() {
        Counted x = scene();
        x.cls(2);
        due("plus without nodes", x.node(PLUS, 0, 0, 0), BAD);
        due("a number", x.node(NUMBER, Integer.MIN_VALUE, 99, -99), 0);
        due("kind -1", x.node(-1, 0, 0, 0), BAD);
        due("kind 10", x.node(10, 0, 0, 0), BAD);
        due("own 4", x.node(OWN, 4, 0, 0), BAD);
        due("own 3", x.node(OWN, 3, -9, 99), 1);
        due("context 3 member 3", x.node(OF_CONTEXT, 3, 3, 99), 2);
        due("super 3 member 3", x.node(OF_SUPER, 3, 3, -9), 3);
        for (int kind = OF_CONTEXT; kind <= OF_SUPER; kind++) {
            due(kind + " of 4", x.node(kind, 4, 0, 0), BAD);
            due(kind + " member 4", x.node(kind, 0, 4, 0), BAD);
        }
        due("at", x.node(AT, 0, 1, 1), 4);
        due("at no class", x.node(AT, 1, 1, 0), BAD);
        due("at no type", x.node(AT, 0, 5, 0), BAD);
        due("at no member", x.node(AT, 0, 1, 2), BAD);
        for (int kind = PLUS; kind <= OVER; kind++) {
            due("kind " + kind, x.node(kind, 0, kind - 1, 99), kind);
            due("kind " + kind + " of no node", x.node(kind, kind + 1, 0, 0), BAD);
            due("kind " + kind + " of no node", x.node(kind, 0, kind + 1, 0), BAD);
        }
        due("if", x.node(IF, 8, 1, 2), 9);
        due("if of no node", x.node(IF, 10, 0, 0), BAD);
        due("if of no node", x.node(IF, 0, 10, 0), BAD);
        due("if of no node", x.node(IF, 0, 0, 10), BAD);
        nodesOfNumbersOutside(x);
        due("count(4)", x.count(4), 10);
        due("the same number", x.node(NUMBER, Integer.MIN_VALUE, 0, 0), 10);
        for (int n = 11; n < 80; n++) {
            due("node " + n, x.node(NUMBER, 0, 0, 0), n);
        }
        due("a node more than 80", x.node(NUMBER, 0, 0, 0), FULL);
        due("BAD goes ahead of FULL", x.node(OWN, 4, 0, 0), BAD);
        due("count(4)", x.count(4), 80);
    }

    private static void nodesOfNumbersOutside(Counted x) {
        for (int out : OUTSIDE) {
            due("kind " + out, x.node(out, 0, 0, 0), BAD);
            due("own " + out, x.node(OWN, out, 0, 0), BAD);
            due("at class " + out, x.node(AT, out, 0, 0), BAD);
            due("at type " + out, x.node(AT, 0, out, 0), BAD);
            due("at member " + out, x.node(AT, 0, 0, out), BAD);
            due("if, third " + out, x.node(IF, 0, 0, out), BAD);
            for (int kind = OF_CONTEXT; kind <= IF; kind++) {
                due(kind + ", first " + out, x.node(kind, out, 0, 0), BAD);
                due(kind + ", second " + out, x.node(kind, 0, out, 0), BAD);
            }
        }
    }

    private static void heights() {
        for (int place = 0; place < 3; place++) {
            Counted x = new Counted();
            due("height 0", x.node(NUMBER, 1, 0, 0), 0);
            for (int high = 1; high <= 8; high++) {
                due("height " + high, highNode(x, place, high - 1), high);
            }
            due("height 9 by place " + place, highNode(x, place, 8), BAD);
            due("height 8 once more", highNode(x, place, 7), 9);
            due("height 9 once more", highNode(x, place, 9), BAD);
            due("plus of height 9", x.node(PLUS, 0, 9, 0), BAD);
        }
        Counted x = scene();
        x.cls(1);
        x.cls(1);
        for (int high = 0; high <= 8; high++) {
            x.node(high == 0 ? NUMBER : PLUS, 0, high - 1, 0);
        }
        due("numbers that are no nodes have no height", x.node(OF_CONTEXT, 3, 3, 8), 9);
        due("numbers that are no nodes have no height", x.node(AT, 1, 4, 0), 10);
        due("and may be within", x.node(PLUS, 10, 9, 8), 11);
        due("what plus does not need", x.node(PLUS, 7, 0, 8), 12);
        due("is not looked at", x.node(PLUS, 0, 12, 0), BAD);
    }

    private static int highNode(Counted x, int place, int high) {
        return x.node(IF, place == 0 ? high : 0, place == 1 ? high : 0, place == 2 ? high : 0);
    }

    // Promise 9
    private static void bodies() {
        Counted x = scene();
        x.cls(2);
        x.cls(3);
        x.superOf(1, 0);
        x.instance(1, 1);
        x.instance(1, 2);
        x.context(0, 0, 0);
        due("no such node yet", x.body(0, 0, 0), BAD);
        x.node(NUMBER, 5, 0, 0);
        due("body(0, 2, 0)", x.body(0, 2, 0), 1);
        due("none", x.body(0, 2, NONE), 1);
        due("none again", x.body(0, 2, NONE), 1);
        due("body(0, 3, 0)", x.body(0, 3, 0), BAD);
        due("body(2, 0, 0)", x.body(2, 0, 0), BAD);
        due("body(0, 0, 1)", x.body(0, 0, 1), BAD);
        due("body(0, 0, -2)", x.body(0, 0, -2), BAD);
        for (int out : OUTSIDE) {
            due("body(" + out + ", 0, 0)", x.body(out, 0, 0), BAD);
            due("body(0, " + out + ", 0)", x.body(0, out, 0), BAD);
            due("body(" + out + ", 0, NONE)", x.body(out, 0, NONE), BAD);
            due("body(0, " + out + ", NONE)", x.body(0, out, NONE), BAD);
            due("body(0, 0, " + out + ")", x.body(0, 0, out), out == NONE ? 1 : BAD);
        }
        dueFit(x, "own 2", x.node(OWN, 2, 0, 0), 1, 1);
        dueFit(x, "own 3", x.node(OWN, 3, 0, 0), BAD, BAD);
        dueFit(x, "context 0 member 1", x.node(OF_CONTEXT, 0, 1, 0), 1, BAD);
        dueFit(x, "context 0 member 2", x.node(OF_CONTEXT, 0, 2, 0), BAD, BAD);
        dueFit(x, "context 1 member 0", x.node(OF_CONTEXT, 1, 0, 0), BAD, BAD);
        dueFit(x, "context 3 member 0", x.node(OF_CONTEXT, 3, 0, 0), BAD, BAD);
        dueFit(x, "super 0 member 1", x.node(OF_SUPER, 0, 1, 0), 1, 1);
        dueFit(x, "super 0 member 2", x.node(OF_SUPER, 0, 2, 0), BAD, BAD);
        dueFit(x, "super 1 member 0", x.node(OF_SUPER, 1, 0, 0), BAD, BAD);
        dueFit(x, "super 3 member 0", x.node(OF_SUPER, 3, 0, 0), BAD, BAD);
        dueFit(x, "at variable 0", x.node(AT, 0, 0, 0), 1, 1);
        dueFit(x, "at variable 1", x.node(AT, 0, 1, 0), BAD, 1);
        dueFit(x, "at a closed type", x.node(AT, 0, 4, 0), 1, 1);
        dueFit(x, "at C2(C1(C0), 1)", x.node(AT, 0, x.type(2, 3, 1), 0), BAD, 1);
        dueFit(x, "at C2(1, 0)", x.node(AT, 0, x.type(2, 1, 0), 0), BAD, 1);
        dueFit(x, "at C1(C1(0))", x.node(AT, 0, x.type(1, x.type(1, 0, 0), 0), 0), 1, 1);
        int bad = x.node(OWN, 3, 0, 0);
        for (int kind = PLUS; kind <= OVER; kind++) {
            dueFit(x, "first of " + kind, x.node(kind, bad, 0, 0), BAD, BAD);
            dueFit(x, "second of " + kind, x.node(kind, 0, bad, 0), BAD, BAD);
            dueFit(x, "neither of " + kind, x.node(kind, 0, 0, bad), 1, 1);
        }
        int asked = x.node(IF, bad, 0, 0);
        dueFit(x, "if", asked, BAD, BAD);
        dueFit(x, "then", x.node(IF, 0, bad, 0), BAD, BAD);
        dueFit(x, "else", x.node(IF, 0, 0, bad), BAD, BAD);
        dueFit(x, "deep within", x.node(PLUS, 0, x.node(LESS, asked, 0, 0), 0), BAD, BAD);
        int once = x.node(OF_CONTEXT, 1, 0, 0);
        dueFit(x, "a context that is not there yet", once, BAD, BAD);
        x.context(0, 1, 0);
        dueFit(x, "a context that has come", once, 1, BAD);
        noPlacesNoVariables();
    }

    private static void dueFit(Counted x, String what, int node, int one, int two) {
        due(what + " in an instance of one place", x.body(0, 0, node), one);
        due(what + " in an instance of two places", x.body(1, 0, node), two);
    }

    private static void noPlacesNoVariables() {
        Counted x = scene();
        x.cls(1);
        x.instance(0, 0);
        due("at variable 0 without places", x.body(0, 0, x.node(AT, 0, 0, 0)), BAD);
        due("at a closed type without places", x.body(0, 0, x.node(AT, 0, 2, 0)), 1);
        due("at C1(0) without places", x.body(0, 0, x.node(AT, 0, x.type(1, 0, 0), 0)), BAD);
    }

    // Promise 10
    private static void standards() {
        Counted x = scene();
        x.cls(2);
        x.cls(3);
        x.superOf(1, 0);
        x.instance(1, 2);
        x.context(0, 0, 0);
        x.node(NUMBER, 5, 0, 0);
        due("standard(1, 2, 0)", x.standard(1, 2, 0), 1);
        due("none", x.standard(1, 2, NONE), 1);
        due("standard(1, 3, 0)", x.standard(1, 3, 0), BAD);
        due("standard(2, 0, 0)", x.standard(2, 0, 0), BAD);
        due("standard(1, 0, 1)", x.standard(1, 0, 1), BAD);
        for (int out : OUTSIDE) {
            due("standard(" + out + ", 0, 0)", x.standard(out, 0, 0), BAD);
            due("standard(1, " + out + ", 0)", x.standard(1, out, 0), BAD);
            due("standard(" + out + ", 0, NONE)", x.standard(out, 0, NONE), BAD);
            due("standard(1, " + out + ", NONE)", x.standard(1, out, NONE), BAD);
            due("standard(1, 0, " + out + ")", x.standard(1, 0, out), out == NONE ? 1 : BAD);
        }
        due("own 2", x.standard(1, 0, x.node(OWN, 2, 0, 0)), 1);
        due("own 3", x.standard(1, 0, x.node(OWN, 3, 0, 0)), BAD);
        due("own 2 of class 0", x.standard(0, 0, x.node(OWN, 2, 0, 0)), BAD);
        due("no context", x.standard(1, 0, x.node(OF_CONTEXT, 0, 0, 0)), BAD);
        due("super 0 member 1", x.standard(1, 0, x.node(OF_SUPER, 0, 1, 0)), 1);
        due("super 0 member 2", x.standard(1, 0, x.node(OF_SUPER, 0, 2, 0)), BAD);
        due("super 1 member 0", x.standard(1, 0, x.node(OF_SUPER, 1, 0, 0)), BAD);
        due("super 0 of class 0", x.standard(0, 0, x.node(OF_SUPER, 0, 0, 0)), BAD);
        due("at variable 0", x.standard(1, 0, x.node(AT, 0, 0, 0)), 1);
        due("at variable 1", x.standard(1, 0, x.node(AT, 0, 1, 0)), BAD);
        due("at C2(0, 1)", x.standard(1, 0, x.node(AT, 0, x.type(2, 0, 1), 0)), BAD);
        due("at C2(0, 0)", x.standard(1, 0, x.node(AT, 0, x.type(2, 0, 0), 0)), 1);
        due("at a closed type", x.standard(1, 0, x.node(AT, 1, 4, 2)), 1);
        int bad = x.node(OF_CONTEXT, 0, 0, 0);
        due("in an else", x.standard(1, 0, x.node(IF, 0, 0, bad)), BAD);
        due("in a then", x.standard(1, 0, x.node(IF, 0, bad, 0)), BAD);
    }

    // Promise 11
    private static void dictionaries() {
        Counted x = scene();
        x.cls(1);
        x.cls(1);
        x.cls(1);
        x.superOf(2, 1);
        x.superOf(2, 0);
        for (int c = 0; c < 3; c++) {
            x.instance(c, 0);
            x.instance(c, 2);
        }
        x.context(5, 2, 1);
        x.context(5, 0, 0);
        int pair = x.type(2, 2, 2);
        for (int out : OUTSIDE) {
            due("dictionary(" + out + ", 2)", x.dictionary(out, 2), BAD);
            due("dictionary(0, " + out + ")", x.dictionary(0, out), BAD);
        }
        due("dictionary(3, 2)", x.dictionary(3, 2), BAD);
        due("dictionary(0, 6)", x.dictionary(0, 6), BAD);
        due("a variable", x.dictionary(0, 0), BAD);
        due("a variable", x.dictionary(0, 1), BAD);
        due("a variable within", x.dictionary(0, x.type(2, 2, x.type(1, 1, 0))), BAD);
        due("dictionary(2, pair)", x.dictionary(2, pair), 0);
        int[] classes = {2, 2, 1, 0, 1, 0};
        int[] types = {pair, 2, 2, 2, pair, pair};
        due("count(5)", x.count(5), 6);
        for (int d = 0; d < 6; d++) {
            due("about(" + d + ", 0)", x.about(d, 0), classes[d]);
            due("about(" + d + ", 1)", x.about(d, 1), types[d]);
            due("the same once", x.dictionary(classes[d], types[d]), d);
        }
        due("count(5)", x.count(5), 6);
    }

    private static void makingsThatFail() {
        Counted x = scene();
        x.cls(1);
        x.cls(1);
        x.superOf(1, 0);
        x.instance(0, 0);
        x.instance(1, 0);
        x.instance(1, 1);
        x.context(2, 1, 0);
        due("a super LACKS", x.dictionary(1, 3), LACKS);
        due("lack(0)", x.lack(0), 0);
        due("lack(1)", x.lack(1), 3);
        due("all that was begun is gone", x.count(5), 0);
        due("dictionary(0, 2)", x.dictionary(0, 2), 0);
        due("a super LACKS deeper", x.dictionary(1, 4), LACKS);
        due("lack(1)", x.lack(1), 3);
        due("what was there before stays", x.count(5), 1);
        due("about(0, 1)", x.about(0, 1), 2);
        due("the number is given again", x.dictionary(1, 2), 1);
        due("part(1, 0)", x.part(1, 0), 0);
        due("count(5)", x.count(5), 2);
    }

    private static void roomForDictionaries() {
        Counted x = wideScene();
        x.superOf(6, 5);
        x.cls(1);
        for (int d = 0; d < 59; d++) {
            due("dictionary " + d, x.dictionary(d / 10, 2 + d % 10), d);
        }
        due("no room for its super", x.dictionary(6, 11), FULL);
        due("all that was begun is gone", x.count(5), 59);
        due("lacking goes ahead of no room", x.dictionary(7, 2), LACKS);
        due("the sixtieth", x.dictionary(6, 2), 59);
        due("part(59, 0)", x.part(59, 0), 50);
        due("a dictionary more than 60", x.dictionary(5, 11), FULL);
        due("BAD goes ahead of FULL", x.dictionary(5, 0), BAD);
        due("LACKS goes ahead of FULL", x.dictionary(7, 3), LACKS);
        due("lack(0)", x.lack(0), 7);
        due("lack(1)", x.lack(1), 3);
        due("one that is there", x.dictionary(3, 4), 32);
        due("count(5)", x.count(5), 60);
    }

    // Promise 12
    private static void lacks() {
        Counted x = scene();
        x.cls(1);
        x.cls(1);
        x.instance(1, 1);
        x.context(0, 0, 0);
        due("lack(0) of none", x.lack(0), NONE);
        due("lack(2)", x.lack(2), BAD);
        for (int out : OUTSIDE) {
            due("lack(" + out + ")", x.lack(out), BAD);
        }
        due("dictionary(1, 2)", x.dictionary(1, 2), LACKS);
        due("lack(0)", x.lack(0), 1);
        due("lack(1)", x.lack(1), 2);
        due("the context LACKS", x.dictionary(1, 4), LACKS);
        due("lack(0)", x.lack(0), 0);
        due("lack(1)", x.lack(1), 3);
        due("BAD is no LACKS", x.dictionary(1, 0), BAD);
        x.instance(0, 1);
        x.instance(0, 0);
        due("dictionary(1, 4)", x.dictionary(1, 4), 0);
        due("the latest stays: lack(0)", x.lack(0), 0);
        due("the latest stays: lack(1)", x.lack(1), 3);
    }

    // Promise 13
    private static void parts() {
        Counted x = scene();
        x.cls(1);
        x.cls(1);
        x.superOf(1, 0);
        x.instance(0, 0);
        x.instance(1, 0);
        x.instance(0, 2);
        x.instance(1, 2);
        x.context(3, 0, 1);
        x.context(3, 1, 0);
        x.context(3, 0, 1);
        int pair = x.type(2, 2, 2);
        due("dictionary(1, pair)", x.dictionary(1, pair), 0);
        int[] parts = {1, 2, 1, 3};
        for (int k = 0; k < parts.length; k++) {
            due("part(0, " + k + ")", x.part(0, k), parts[k]);
        }
        due("part(0, 4)", x.part(0, 4), BAD);
        due("part(2, 0)", x.part(2, 0), 1);
        due("part(2, 1)", x.part(2, 1), BAD);
        due("part(1, 0)", x.part(1, 0), BAD);
        due("part(4, 0)", x.part(4, 0), BAD);
        for (int out : OUTSIDE) {
            due("part(" + out + ", 0)", x.part(out, 0), BAD);
            due("part(0, " + out + ")", x.part(0, out), BAD);
        }
    }

    // Promise 14
    private static void abouts() {
        Counted x = scene();
        x.cls(1);
        x.cls(2);
        x.superOf(1, 0);
        x.instance(0, 1);
        x.instance(0, 0);
        x.instance(1, 1);
        x.context(0, 0, 0);
        due("dictionary(1, 4)", x.dictionary(1, 4), 0);
        int[][] rows = {{1, 4, 2, 1, 4}, {0, 4, 0, 1, 3}, {0, 3, 0, 1, 2}, {0, 2, 1, 0, 1}};
        for (int d = 0; d < rows.length; d++) {
            for (int what = 0; what < 5; what++) {
                due("about(" + d + ", " + what + ")", x.about(d, what), rows[d][what]);
            }
        }
        due("about(0, 5)", x.about(0, 5), BAD);
        due("about(4, 0)", x.about(4, 0), BAD);
        for (int out : OUTSIDE) {
            due("about(" + out + ", 0)", x.about(out, 0), BAD);
            due("about(0, " + out + ")", x.about(0, out), BAD);
        }
    }

    /** Every PART is shared: walked as a tree, this would be some 2^27 DICTIONARIES. */
    private static void hanging() {
        Counted x = new Counted();
        x.constructor(0);
        x.constructor(2);
        x.cls(1);
        x.instance(0, 0);
        x.instance(0, 1);
        x.context(1, 0, 0);
        x.context(1, 0, 1);
        x.context(1, 0, 1);
        x.type(0, 0, 0);
        for (int t = 3; t < 62; t++) {
            x.type(1, t - 1, t - 1);
        }
        due("dictionary(0, 61)", x.dictionary(0, 61), 0);
        for (int d = 0; d < 60; d += 7) {
            due("about(" + d + ", 4)", x.about(d, 4), 60 - d);
        }
        for (int d = 59; d >= 0; d -= 7) {
            due("about(" + d + ", 4) again", x.about(d, 4), 60 - d);
        }
        due("another chain", x.type(1, 61, 61), 62);
        due("no room for it", x.dictionary(0, 62), FULL);
        due("count(5)", x.count(5), 60);
        x.cls(1);
        x.dictionary(0, 2);
        due("dictionary(0, 3)", x.dictionary(0, 3), 1);
        due("about(0, 4)", x.about(0, 4), 1);
        due("about(1, 4)", x.about(1, 4), 2);
        due("about(1, 4) again", x.about(1, 4), 2);
    }

    // Promise 15
    private static void values() {
        Counted x = scene();
        x.cls(2);
        x.cls(2);
        x.superOf(1, 0);
        x.instance(0, 0);
        x.instance(0, 1);
        x.instance(1, 1);
        x.context(2, 0, 0);
        int seven = x.node(NUMBER, 7, 0, 0);
        int nine = x.node(NUMBER, -9, 0, 0);
        x.standard(0, 0, seven);
        x.body(1, 0, nine);
        x.standard(0, 1, x.node(TIMES, x.node(OWN, 0, 0, 0), x.node(NUMBER, 10, 0, 0), 0));
        x.body(2, 0, x.node(OF_CONTEXT, 0, 1, 0));
        x.standard(1, 0, seven);
        x.standard(1, 1, x.node(OF_SUPER, 0, 1, 0));
        due("dictionary(1, 3)", x.dictionary(1, 3), 0);
        due("the body goes ahead of the standard", x.value(0, 0), 70);
        due("a super after the contexts", x.value(0, 1), -90);
        due("worked before", x.value(0, 1), -90);
        due("a standard", x.value(1, 0), 7);
        due("the body of another instance", x.value(2, 0), -9);
        for (int out : OUTSIDE) {
            due("value(" + out + ", 0)", x.value(out, 0), 0);
            dueFault("value(" + out + ", 0)", x, BAD, NONE, NONE);
            due("value(0, 0)", x.value(0, 0), 70);
            due("value(0, " + out + ")", x.value(0, out), 0);
            dueFault("value(0, " + out + ")", x, BAD, NONE, NONE);
        }
        due("value(0, 2)", x.value(0, 2), 0);
        dueFault("value(0, 2)", x, BAD, NONE, NONE);
        due("value(3, 0)", x.value(3, 0), 0);
        dueFault("value(3, 0)", x, BAD, NONE, NONE);
        x.body(2, 0, NONE);
        x.dictionary(1, 3);
        due("the body is gone, the standard counts", x.value(0, 0), 7);
    }

    /** 3 CONTEXTS and 3 SUPERS, each MEMBER with a number of its own. */
    private static void valuesOfAllParts() {
        Counted x = scene();
        int pair = x.type(2, 3, 2);
        for (int c = 0; c < 4; c++) {
            x.cls(4);
            for (int h = 0; h < 3; h++) {
                int i = x.instance(c, h);
                for (int m = 0; m < 4; m++) {
                    x.body(i, m, x.node(NUMBER, 100 * c + 10 * h + m, 0, 0));
                }
            }
        }
        for (int above = 2; above >= 0; above--) {
            x.superOf(3, above);
        }
        int last = 11;
        x.context(last, 1, 0);
        x.context(last, 2, 1);
        x.context(last, 1, 1);
        long[] contexts = {110, 200, 100};
        long[] supers = {220, 120, 20};
        for (int k = 0; k < 3; k++) {
            for (int m = 0; m < 4; m++) {
                x.body(last, 0, x.node(OF_CONTEXT, k, m, 0));
                x.body(last, 1, x.node(OF_SUPER, k, m, 0));
                due("dictionary(3, pair)", x.dictionary(3, pair), 0);
                due("context " + k + " member " + m, x.value(0, 0), contexts[k] + m);
                due("super " + k + " member " + m, x.value(0, 1), supers[k] + m);
            }
        }
    }

    private static void bodiesOfAllInstances() {
        Counted x = new Counted();
        for (int h = 0; h < 7; h++) {
            x.constructor(0);
            x.type(h, 0, 0);
        }
        x.cls(4);
        x.cls(4);
        x.cls(4);
        for (int n = 0; n < 80; n++) {
            due("node " + n, x.node(NUMBER, 1000 + n, 0, 0), n);
        }
        for (int i = 0; i < 20; i++) {
            x.instance(i / 7, i % 7);
            for (int m = 0; m < 4; m++) {
                due("body(" + i + ", " + m + ")", x.body(i, m, 4 * i + m), 1);
            }
        }
        for (int i = 0; i < 20; i++) {
            due("dictionary of " + i, x.dictionary(i / 7, 2 + i % 7), i);
            for (int m = 0; m < 4; m++) {
                due("value(" + i + ", " + m + ")", x.value(i, m), 1000 + 4 * i + m);
            }
        }
    }

    private static long worked(int kind, long[] row) {
        Counted x = scene();
        x.cls(1);
        x.instance(0, 0);
        int left = longNode(x, row[0]);
        int right = longNode(x, row[1]);
        x.body(0, 0, x.node(kind, left, right, 0));
        x.dictionary(0, 2);
        return x.value(0, 0);
    }

    private static void arithmetic() {
        long[][] rows = {{7, 2}, {-7, 2}, {7, -2}, {-7, -2}, {Long.MAX_VALUE, 1}, {Long.MIN_VALUE, 1},
            {Long.MIN_VALUE, -1}, {Long.MAX_VALUE, Long.MAX_VALUE}, {1, Long.MIN_VALUE}, {3, 5},
            {Integer.MIN_VALUE, Integer.MAX_VALUE}, {1234567890123456789L, 987654321L}};
        for (long[] row : rows) {
            String of = " of " + row[0] + ", " + row[1];
            due("plus" + of, worked(PLUS, row), row[0] + row[1]);
            due("less" + of, worked(LESS, row), row[0] - row[1]);
            due("times" + of, worked(TIMES, row), row[0] * row[1]);
            due("over" + of, worked(OVER, row), row[0] / row[1]);
        }
        due("0 over 5", worked(OVER, new long[] {0, 5}), 0);
        due("7 over 2", worked(OVER, new long[] {7, 2}), 3);
        due("-7 over 2", worked(OVER, new long[] {-7, 2}), -3);
    }

    private static void sidesOfIf() {
        int[] conditions = {0, 1, -1, Integer.MIN_VALUE};
        for (int condition : conditions) {
            Counted x = scene();
            x.cls(4);
            x.instance(0, 0);
            int asked = x.node(OWN, 0, 0, 0);
            int then = x.node(OWN, 1, 0, 0);
            int other = x.node(OWN, 2, 0, 0);
            x.body(0, 0, x.node(NUMBER, condition, 0, 0));
            x.body(0, 1, x.node(NUMBER, 11, 0, 0));
            x.body(0, 2, x.node(NUMBER, 22, 0, 0));
            x.body(0, 3, x.node(IF, asked, then, other));
            x.dictionary(0, 2);
            due("if " + condition, x.value(0, 3), condition != 0 ? 11 : 22);
            dueSteps("just the side that counts", x, 0, 0, 0, condition != 0 ? 1 : 2, 0, 3);
        }
        Counted x = scene();
        x.cls(1);
        x.instance(0, 0);
        int great = longNode(x, 1L << 32);
        x.body(0, 0, x.node(IF, great, x.node(NUMBER, 1, 0, 0), x.node(NUMBER, 2, 0, 0)));
        x.dictionary(0, 2);
        due("the whole long is looked at", x.value(0, 0), 1);
    }

    private static void variablesPutIn() {
        Counted x = scene();
        int pair = x.type(2, 3, 2);
        int swapped = x.type(2, 1, x.type(1, 0, 0));
        int twice = x.type(2, 0, 0);
        x.cls(3);
        for (int c = 0; c < 3; c++) {
            x.instance(0, c);
            x.body(c, 0, x.node(NUMBER, c, 0, 0));
        }
        x.body(2, 1, x.node(AT, 0, swapped, 0));
        x.standard(0, 2, x.node(AT, 0, twice, 0));
        due("dictionary(0, pair)", x.dictionary(0, pair), 0);
        int before = x.count(1);
        due("value(0, 1)", x.value(0, 1), 2);
        due("C1(C1(C0)) was there", x.count(1), before + 1);
        due("C2(C0, C1(C1(C0)))", x.typeOf(before, 1), 2);
        due("C2(C0, C1(C1(C0)))", x.typeOf(before, 2), 4);
        due("at it", x.about(1, 1), before);
        due("value(0, 2)", x.value(0, 2), 2);
        due("C2(pair, pair)", x.typeOf(before + 1, 1), pair);
        due("C2(pair, pair)", x.typeOf(before + 1, 2), pair);
        due("it is closed", x.typeOf(before + 1, 3), 1);
        due("at it", x.about(2, 1), before + 1);
        due("worked before", x.value(0, 2), 2);
        due("nothing is made again", x.count(1), before + 2);
        x.body(2, 2, x.node(AT, 0, twice, 0));
        x.dictionary(0, pair);
        due("in a body variable 0 is the argument", x.value(0, 2), 2);
        due("C2(C1(C0), C1(C0))", x.typeOf(before + 2, 1), 3);
    }

    private static void orderOfTypesPutIn() {
        Counted x = scene();
        int later = x.type(1, 1, 0);
        int sooner = x.type(1, 0, 0);
        int both = x.type(2, sooner, x.type(2, later, sooner));
        int four = 4;
        int pair = x.type(2, four, x.type(2, 2, 2));
        x.cls(2);
        x.instance(0, 2);
        x.body(0, 0, x.node(AT, 0, both, 1));
        x.dictionary(0, pair);
        int before = x.count(1);
        x.value(0, 0);
        dueFault("at C2(C1(4), C2(C1(C2(C0, C0)), C1(4)))", x, MISSING, 1, 1);
        int[][] made = {{1, four, NONE}, {1, pair - 1, NONE}, {2, before + 1, before}, {2, before, before + 2}};
        due("count(1)", x.count(1), before + made.length);
        for (int n = 0; n < made.length; n++) {
            for (int what = 0; what < 3; what++) {
                due("made " + n + ", " + what, x.typeOf(before + n, what), made[n][what]);
            }
        }
    }

    private static void missing() {
        Counted x = scene();
        x.cls(3);
        x.instance(0, 0);
        x.body(0, 0, x.node(PLUS, x.node(OWN, 1, 0, 0), x.node(OWN, 2, 0, 0), 0));
        x.body(0, 1, x.node(NUMBER, 4, 0, 0));
        x.dictionary(0, 2);
        due("value(0, 0)", x.value(0, 0), 0);
        dueFault("the missing one is told", x, MISSING, 0, 2);
        dueSteps("what was worked to its end", x, 0, 1);
        due("value(0, 2)", x.value(0, 2), 0);
        dueFault("missing itself", x, MISSING, 0, 2);
        dueSteps("no step", x);
        x.standard(0, 2, x.node(NUMBER, 5, 0, 0));
        x.dictionary(0, 2);
        due("value(0, 0)", x.value(0, 0), 9);
        dueFault("no fault", x, 0, NONE, NONE);
    }

    private static void rings() {
        Counted x = scene();
        x.cls(4);
        x.instance(0, 0);
        x.body(0, 0, x.node(OWN, 1, 0, 0));
        x.body(0, 1, x.node(PLUS, x.node(OWN, 3, 0, 0), x.node(OWN, 2, 0, 0), 0));
        x.body(0, 2, x.node(OWN, 1, 0, 0));
        x.body(0, 3, x.node(NUMBER, 8, 0, 0));
        x.dictionary(0, 2);
        due("value(0, 0)", x.value(0, 0), 0);
        dueFault("the one that would be worked", x, RING, 0, 1);
        dueSteps("worked to its end", x, 0, 3);
        due("value(0, 2)", x.value(0, 2), 0);
        dueFault("nothing of those stays", x, RING, 0, 2);
        dueSteps("3 was worked before", x);
        due("value(0, 3)", x.value(0, 3), 8);
        dueSteps("it stays worked", x);
        Counted y = scene();
        y.cls(1);
        y.instance(0, 0);
        y.body(0, 0, y.node(AT, 0, 2, 0));
        y.dictionary(0, 2);
        due("itself by AT", y.value(0, 0), 0);
        dueFault("itself by AT", y, RING, 0, 0);
    }

    private static void zero() {
        Counted x = scene();
        x.cls(3);
        x.instance(0, 0);
        int nothing = x.node(OWN, 2, 0, 0);
        x.body(0, 0, x.node(PLUS, x.node(OWN, 1, 0, 0), x.node(OWN, 2, 0, 0), 0));
        x.body(0, 1, x.node(OVER, x.node(NUMBER, 3, 0, 0), nothing, 0));
        x.body(0, 2, x.node(NUMBER, 0, 0, 0));
        x.dictionary(0, 2);
        due("value(0, 0)", x.value(0, 0), 0);
        dueFault("the one in which it was found", x, ZERO, 0, 1);
        dueSteps("the zero was worked", x, 0, 2);
        x.body(0, 1, x.node(OVER, x.node(OVER, nothing, nothing, 0), x.node(OWN, 0, 0, 0), 0));
        x.dictionary(0, 2);
        due("from the left", x.value(0, 1), 0);
        dueFault("from the left", x, ZERO, 0, 1);
    }

    private static void faultsOfAt() {
        Counted x = scene();
        x.cls(2);
        x.cls(1);
        x.instance(0, 0);
        x.instance(0, 1);
        x.body(0, 0, x.node(OWN, 1, 0, 0));
        x.body(0, 1, x.node(AT, 1, 3, 0));
        x.body(1, 1, x.node(AT, 0, x.type(2, 0, x.type(1, 0, 0)), 0));
        x.dictionary(0, 2);
        x.dictionary(0, 4);
        due("value(0, 0)", x.value(0, 0), 0);
        dueFault("the one in which it was found", x, LACKING, 0, 1);
        due("lack(0)", x.lack(0), 1);
        due("lack(1)", x.lack(1), 3);
        int before = x.count(1);
        due("value(1, 1)", x.value(1, 1), 0);
        dueFault("at a type that is put in", x, LACKING, 1, 1);
        due("what is made stays", x.count(1), before + 1);
        due("lack(0)", x.lack(0), 0);
        due("lack(1)", x.lack(1), before);
        due("count(5)", x.count(5), 2);
        x.instance(0, 2);
        x.context(2, 0, 0);
        x.context(2, 1, 1);
        x.dictionary(0, 4);
        due("value(0, 1)", x.value(0, 1), 0);
        dueFault("a part LACKS", x, LACKING, 0, 1);
        due("lack(0)", x.lack(0), 1);
        due("lack(1)", x.lack(1), 4);
        due("all that was begun by this making is gone", x.count(5), 1);
    }

    private static void deep() {
        Counted x = chain(40, 5);
        due("40 at work", x.value(0, 0), 5);
        due("count(6)", x.count(6), 40);
        due("step(0, 0)", x.step(0, 0), 39);
        due("step(39, 0)", x.step(39, 0), 0);
        Counted y = chain(41, 5);
        due("41 at work", y.value(0, 0), 0);
        dueFault("the one that would be worked", y, DEEP, 40, 0);
        dueSteps("none ended", y);
        due("begun(39, 0)", y.begun(39, 0), 1);
        due("begun(40, 0)", y.begun(40, 0), 0);
        due("from one further on", y.value(1, 0), 5);
        due("count(6)", y.count(6), 40);
        due("now it is worked", y.value(0, 0), 5);
        dueSteps("just that one", y, 0, 0);
        due("begun(0, 0)", y.begun(0, 0), 2);
    }

    private static void deepEdges() {
        Counted x = chain(41, NONE);
        due("41, the last missing", x.value(0, 0), 0);
        dueFault("DEEP goes ahead of MISSING", x, DEEP, 40, 0);
        due("40, the last missing", x.value(1, 0), 0);
        dueFault("40, the last missing", x, MISSING, 40, 0);
        Counted y = chain(40, 5);
        y.body(0, 0, y.node(AT, 0, 41, 0));
        y.dictionary(0, 41);
        due("a ring of 40", y.value(0, 0), 0);
        dueFault("RING goes ahead of DEEP", y, RING, 0, 0);
        Counted z = chain(40, 5);
        z.body(0, 1, z.node(NUMBER, 6, 0, 0));
        z.body(0, 0, z.node(AT, 0, 2, 1));
        z.dictionary(0, 41);
        due("value(39, 1)", z.value(39, 1), 6);
        due("what was worked is never DEEP", z.value(0, 0), 6);
    }

    private static void wantOfTypes() {
        Counted x = scene();
        int grown = x.type(1, x.type(1, x.type(1, 0, 0), 0), 0);
        x.cls(1);
        x.instance(0, 1);
        x.body(0, 0, x.node(AT, 0, grown, 0));
        due("dictionary(0, 3)", x.dictionary(0, 3), 0);
        due("each needs two types more", x.value(0, 0), 0);
        due("count(1)", x.count(1), 80);
        due("failed(0)", x.failed(0), NO_ROOM);
        due("failed(1)", x.failed(1), x.count(5) - 1);
        due("failed(2)", x.failed(2), 0);
        due("no LACKS", x.lack(0), NONE);
        due("begun(0, 0)", x.begun(0, 0), 1);
    }

    private static void wantOfTypesKeepsWhatIsMade() {
        Counted x = scene();
        int inner = x.type(2, 0, 0);
        int both = x.type(2, inner, x.type(1, inner, 0));
        x.cls(1);
        x.instance(0, 1);
        x.instance(0, 2);
        x.body(0, 0, x.node(AT, 0, both, 0));
        x.body(1, 0, x.node(NUMBER, 3, 0, 0));
        int top = 4;
        for (int t = x.count(1); t < 78; t++) {
            top = x.type(1, top, 0);
        }
        x.dictionary(0, 4);
        due("three types are needed", x.value(0, 0), 0);
        dueFault("room for two", x, NO_ROOM, 0, 0);
        due("what is made stays", x.count(1), 80);
        due("C2(3, 3)", x.typeOf(78, 0), 2);
        due("C2(3, 3)", x.typeOf(78, 1), 3);
        due("C1(78)", x.typeOf(79, 0), 1);
        due("C1(78)", x.typeOf(79, 1), 78);
        due("no dictionary more", x.count(5), 1);
        due("a variable needs no room", x.body(0, 0, x.node(AT, 0, 0, 0)), 1);
        x.dictionary(0, 4);
        due("a ring of none", x.value(0, 0), 0);
        due("C1(C0) needs C0", x.failed(0), LACKING);
        due("C0", x.lack(1), 2);
    }

    private static void wantOfDictionaries() {
        Counted x = wideScene();
        x.body(0, 0, x.node(AT, 6, 2, 0));
        for (int d = 0; d < 60; d++) {
            x.dictionary(d / 10, 2 + d % 10);
        }
        due("count(5)", x.count(5), 60);
        due("no room", x.value(0, 0), 0);
        dueFault("no room", x, NO_ROOM, 0, 0);
        due("begun(0, 0)", x.begun(0, 0), 1);
        due("again", x.value(0, 0), 0);
        due("begun(0, 0)", x.begun(0, 0), 2);
    }

    // Promise 16
    private static void reports() {
        Counted x = scene();
        x.cls(2);
        x.instance(0, 0);
        x.instance(0, 1);
        x.body(0, 0, x.node(NUMBER, 1, 0, 0));
        x.dictionary(0, 3);
        x.dictionary(0, 2);
        due("failed(3)", x.failed(3), BAD);
        for (int out : OUTSIDE) {
            due("failed(" + out + ")", x.failed(out), BAD);
        }
        x.value(1, 1);
        dueFault("value(1, 1)", x, MISSING, 1, 1);
        x.dictionary(0, 2);
        x.about(0, 0);
        dueFault("other calls do not change it", x, MISSING, 1, 1);
        x.cls(1);
        dueFault("numbers as they were then", x, MISSING, 1, 1);
        x.dictionary(0, 2);
        x.value(0, 0);
        dueFault("value(0, 0)", x, 0, NONE, NONE);
        x.value(0, 1);
        x.value(7, 0);
        dueFault("value(7, 0)", x, BAD, NONE, NONE);
        due("failed(0) is BAD, failed(3) too", x.failed(3), BAD);
    }

    // Promise 17
    private static void steps() {
        Counted x = scene();
        x.cls(3);
        x.instance(0, 0);
        x.instance(0, 1);
        x.context(1, 0, 0);
        int zero = x.node(OWN, 0, 0, 0);
        int one = x.node(OWN, 1, 0, 0);
        x.standard(0, 0, x.node(NUMBER, 2, 0, 0));
        x.standard(0, 1, x.node(TIMES, zero, zero, 0));
        x.body(0, 2, x.node(PLUS, one, zero, 0));
        x.body(1, 2, x.node(LESS, x.node(OF_CONTEXT, 0, 2, 0), one, 0));
        x.dictionary(0, 3);
        due("value(0, 2)", x.value(0, 2), 2);
        dueSteps("as they ended", x, 1, 0, 1, 1, 1, 2, 0, 0, 0, 1, 0, 2);
        for (int out : OUTSIDE) {
            due("step(" + out + ", 0)", x.step(out, 0), NONE);
            due("step(" + out + ", 1)", x.step(out, 1), NONE);
            due("step(0, " + out + ")", x.step(0, out), BAD);
            due("step(" + out + ", 2)", x.step(out, 2), BAD);
        }
        x.cls(1);
        due("they stay: count(6)", x.count(6), 6);
        due("they stay: step(5, 1)", x.step(5, 1), 2);
        x.dictionary(0, 3);
        x.value(1, 0);
        dueSteps("just the latest", x, 1, 0);
        x.value(1, 0);
        dueSteps("worked before", x);
        x.value(0, 1);
        dueSteps("value(0, 1)", x, 0, 0, 0, 1);
        x.value(0, 3);
        dueSteps("BAD has none", x);
    }

    // Promise 18
    private static void begun() {
        Counted x = scene();
        x.cls(4);
        x.instance(0, 0);
        x.instance(0, 1);
        int own = x.node(OWN, 1, 0, 0);
        x.body(0, 0, x.node(PLUS, own, own, 0));
        x.standard(0, 1, x.node(NUMBER, 2, 0, 0));
        x.body(0, 2, x.node(PLUS, own, x.node(OWN, 3, 0, 0), 0));
        x.dictionary(0, 2);
        due("none yet", x.begun(0, 0), 0);
        due("value(0, 0)", x.value(0, 0), 4);
        due("a body", x.begun(0, 0), 1);
        due("a standard, once", x.begun(0, 1), 1);
        x.value(0, 0);
        due("worked before", x.begun(0, 0), 1);
        for (int n = 1; n <= 3; n++) {
            x.value(0, 2);
            due("each time it failed", x.begun(0, 2), n);
            due("worked before", x.begun(0, 1), 1);
            due("missing: there was nothing to begin", x.begun(0, 3), 0);
        }
        due("begun(0, 4)", x.begun(0, 4), BAD);
        due("begun(1, 0)", x.begun(1, 0), BAD);
        for (int out : OUTSIDE) {
            due("begun(" + out + ", 0)", x.begun(out, 0), BAD);
            due("begun(0, " + out + ")", x.begun(0, out), BAD);
        }
        x.body(0, 3, own);
        due("gone with the dictionary", x.begun(0, 0), BAD);
        x.dictionary(0, 3);
        x.dictionary(0, 2);
        due("a new dictionary", x.begun(0, 0), 0);
        due("a new dictionary", x.begun(0, 1), 0);
        due("nothing stays worked", x.value(1, 0), 4);
        due("begun anew", x.begun(1, 1), 1);
        due("another dictionary's", x.begun(0, 1), 0);
    }

    // Promise 19
    private static void typesOf() {
        Counted x = scene();
        x.type(2, 3, 0);
        x.type(2, 4, 2);
        x.type(1, 5, 0);
        int[][] rows = {{NONE, NONE, NONE, 0}, {NONE, NONE, NONE, 0}, {0, NONE, NONE, 1}, {1, 2, NONE, 1},
            {1, 3, NONE, 1}, {2, 3, 0, 0}, {2, 4, 2, 1}, {1, 5, NONE, 0}};
        for (int t = 0; t < rows.length; t++) {
            for (int what = 0; what < 4; what++) {
                due("typeOf(" + t + ", " + what + ")", x.typeOf(t, what), rows[t][what]);
            }
            due("typeOf(" + t + ", 4)", x.typeOf(t, 4), BAD);
        }
        due("typeOf(8, 0)", x.typeOf(8, 0), BAD);
        for (int out : OUTSIDE) {
            due("typeOf(" + out + ", 0)", x.typeOf(out, 0), BAD);
            due("typeOf(2, " + out + ")", x.typeOf(2, out), BAD);
        }
    }

    // Promise 20
    private static void counts() {
        Counted x = scene();
        x.cls(1);
        x.cls(1);
        x.instance(0, 0);
        x.node(NUMBER, 1, 0, 0);
        x.node(NUMBER, 1, 0, 0);
        x.node(NUMBER, 1, 0, 0);
        x.node(NUMBER, 1, 0, 0);
        x.body(0, 0, 0);
        x.dictionary(0, 2);
        x.value(0, 0);
        int[] counts = {3, 5, 2, 1, 4, 1, 1};
        for (int what = 0; what < counts.length; what++) {
            due("count(" + what + ")", x.count(what), counts[what]);
        }
        due("count(7)", x.count(7), BAD);
        for (int out : OUTSIDE) {
            due("count(" + out + ")", x.count(out), BAD);
        }
    }

    private static void whatTakesDictionariesAway() {
        Counted x = scene();
        x.cls(1);
        x.cls(1);
        x.instance(0, 0);
        x.instance(0, 1);
        x.dictionary(0, 2);
        dueAfter(x, "constructor", x.constructor(0), 3, 1);
        dueAfter(x, "type", x.type(3, 0, 0), 5, 1);
        dueAfter(x, "node", x.node(NUMBER, 0, 0, 0), 0, 1);
        dueAfter(x, "cls", x.cls(1), 2, 0);
        dueAfter(x, "superOf", x.superOf(2, 1), 1, 0);
        dueAfter(x, "instance", x.instance(1, 0), 2, 0);
        dueAfter(x, "context", x.context(1, 0, 0), 1, 0);
        dueAfter(x, "body", x.body(0, 0, 0), 1, 0);
        dueAfter(x, "body of none", x.body(1, 0, NONE), 1, 0);
        dueAfter(x, "standard", x.standard(0, 0, 0), 1, 0);
        dueAfter(x, "standard of none", x.standard(1, 0, NONE), 1, 0);
    }

    /** Looks at how many DICTIONARIES the call left, and makes the one again for the next call. */
    private static void dueAfter(Counted x, String what, int got, int want, int left) {
        due(what, got, want);
        due(what + ": count(5)", x.count(5), left);
        due("dictionary(0, 2)", x.dictionary(0, 2), 0);
    }

    private static void refusalsChangeNothing() {
        Counted x = scene();
        x.cls(1);
        x.instance(0, 0);
        x.node(NUMBER, 4, 0, 0);
        x.body(0, 0, 0);
        x.dictionary(0, 2);
        x.value(0, 0);
        int[] answers = {x.constructor(9), x.type(9, 0, 0), x.cls(9), x.superOf(0, 0), x.instance(0, 0),
            x.context(0, 0, 0), x.node(99, 0, 0, 0), x.body(0, 1, 0), x.body(0, 0, 1), x.standard(0, 1, 0),
            x.standard(0, 0, 9), x.dictionary(0, 0)};
        for (int n = 0; n < answers.length; n++) {
            due("refusal " + n, answers[n], BAD);
        }
        int[] counts = {3, 5, 1, 1, 1, 1, 1};
        for (int what = 0; what < counts.length; what++) {
            due("refused: count(" + what + ")", x.count(what), counts[what]);
        }
        due("still worked", x.value(0, 0), 4);
        due("begun(0, 0)", x.begun(0, 0), 1);
        Counted y = wideScene();
        y.cls(1);
        y.superOf(7, 0);
        y.superOf(7, 1);
        y.superOf(7, 2);
        y.context(1, 0, 0);
        y.context(1, 0, 0);
        y.context(1, 0, 0);
        y.dictionary(0, 2);
        due("superOf that is FULL", y.superOf(7, 3), FULL);
        due("context that is FULL", y.context(1, 0, 0), FULL);
        due("cls that is FULL", y.cls(1), FULL);
        due("nothing is taken away", y.count(5), 1);
    }
}
