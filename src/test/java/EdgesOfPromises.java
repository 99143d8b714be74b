/** Sentences of the document's promises 1 to 20. */
final class EdgesOfPromises extends Checks {
    static void all(Sentences s) {
        promisesOfWhatIsMade(s);
        promisesOfNodes(s);
        promisesOfDictionaries(s);
        promisesOfValues(s);
        promisesOfCounts(s);
    }

    private static void promisesOfWhatIsMade(Sentences s) {
        s.in("Promise 1");
        s.holds("TYPES 0, 1; nothing else.", EdgesOfPromises::newObject);
        s.in("Promise 2");
        s.holds("A CONSTRUCTOR: its number.", EdgesOfPromises::constructorNumbers);
        s.holds("BAD: PLACES; FULL.", EdgesOfPromises::constructorRefusals);
        s.in("Promise 3");
        s.holds("A TYPE: a CONSTRUCTOR with ARGUMENTS", EdgesOfPromises::typeArguments);
        s.holds("(what it does not need is not looked at): its number.", EdgesOfPromises::typeDoesNotLook);
        s.holds("BAD; FULL.", EdgesOfPromises::typeRefusals);
        s.in("Promise 4");
        s.holds("A CLASS with so many MEMBERS: its number.", EdgesOfPromises::clsNumbers);
        s.holds("BAD; FULL.", EdgesOfPromises::clsRefusals);
        s.in("Promise 5");
        s.holds("A SUPER more of a CLASS: how many.", EdgesOfPromises::superOfHowMany);
        s.holds("BAD: also no lesser number, or it has it; FULL.", EdgesOfPromises::superOfRefusals);
        s.in("Promise 6");
        s.holds("An INSTANCE: its number.", EdgesOfPromises::instanceNumbers);
        s.holds("BAD: also there is one; FULL.", EdgesOfPromises::instanceRefusals);
        s.in("Promise 7");
        s.holds("A CONTEXT more of an INSTANCE: how many.", EdgesOfPromises::contextHowMany);
        s.holds("BAD: also the VARIABLE; FULL.", EdgesOfPromises::contextRefusals);
    }

    private static void promisesOfNodes(Sentences s) {
        s.in("Promise 8");
        s.holds("A NODE by its KIND: its number.", EdgesOfPromises::nodeKinds);
        s.holds("BAD: also a of OWN,", EdgesOfPromises::nodeOwn);
        s.holds("a, b of CONTEXT and SUPER are not 0 .. 3,", EdgesOfPromises::nodeOfContextOrSuper);
        s.holds("c of AT is no MEMBER of the CLASS,", EdgesOfPromises::nodeAt);
        s.holds("the HEIGHT;", EdgesOfPromises::nodeHeight);
        s.holds("BAD:", EdgesOfPromises::nodeOfNodes);
        s.holds("FULL.", EdgesOfPromises::nodeFull);
        s.in("Promise 9");
        s.holds("The BODY of a MEMBER of an INSTANCE becomes a NODE, or none (NONE): 1.",
            EdgesOfPromises::bodyBecomes);
        s.holds("BAD: also it does not FIT.", EdgesOfPromises::bodyRefusals);
        s.in("Promise 10");
        s.holds("The STANDARD of a MEMBER of a CLASS, likewise.", EdgesOfPromises::standardBecomes);
        s.holds("BAD.", EdgesOfPromises::standardRefusals);
    }

    private static void promisesOfDictionaries(Sentences s) {
        s.in("Promise 11");
        s.holds("The DICTIONARY of a CLASS at a TYPE, made if it is not there: its number.",
            EdgesOfPromises::dictionaryNumbers);
        s.holds("BAD: also a TYPE that is not CLOSED;", EdgesOfPromises::dictionaryBad);
        s.holds("LACKS;", EdgesOfPromises::dictionaryLacks);
        s.holds("FULL.", EdgesOfPromises::dictionaryFull);
        s.in("Promise 12");
        s.holds("What was not there at the latest LACKS (of dictionary(), value()):",
            EdgesOfPromises::latestLacks);
        s.holds("what = 0 the CLASS, 1 the TYPE;", EdgesOfPromises::lackWhat);
        s.holds("NONE: there was none.", EdgesOfPromises::lackNone);
        s.holds("BAD.", EdgesOfPromises::lackBad);
        s.in("Promise 13");
        s.holds("The DICTIONARY that is the k-th PART of one.", EdgesOfPromises::kthPart);
        s.holds("BAD.", EdgesOfPromises::partBad);
        s.in("Promise 14");
        s.holds("Of a DICTIONARY: what = 0 its CLASS, 1 its TYPE, 2 its INSTANCE, 3 how many PARTS,",
            EdgesOfPromises::aboutWhat);
        s.holds("4 how many DICTIONARIES hang on it (its PARTS, theirs, .., and itself, each once).",
            EdgesOfPromises::aboutHanging);
        s.holds("BAD.", EdgesOfPromises::aboutBad);
    }

    private static void promisesOfValues(Sentences s) {
        s.in("Promise 15");
        s.holds("A MEMBER of a DICTIONARY is worked: its VALUE;", EdgesOfPromises::valueWorked);
        s.holds("0 with a FAULT.", EdgesOfPromises::valueWithFault);
        s.holds("0 of BAD, which failed(0) tells.", EdgesOfPromises::valueBad);
        s.in("Promise 16");
        s.holds("Of the latest value(): what = 0 the FAULT (0: none; BAD),", EdgesOfPromises::failedLatest);
        s.holds("1 the DICTIONARY, 2 the MEMBER (NONE without a FAULT).", EdgesOfPromises::failedWithout);
        s.holds("BAD.", EdgesOfPromises::failedBad);
        s.holds("(Numbers as they were then.)", EdgesOfPromises::failedNumbersThen);
        s.in("Promise 17");
        s.holds("STEP k of the latest value(): what = 0 the DICTIONARY, 1 the MEMBER;",
            EdgesOfPromises::stepsOfLatest);
        s.holds("STEP k of the latest value(): what = 0 the DICTIONARY, 1 the MEMBER;",
            EdgesOfPromises::allMembersAreSteps);
        s.holds("NONE: there is none.", EdgesOfPromises::stepNone);
        s.holds("BAD: what.", EdgesOfPromises::stepBad);
        s.in("Promise 18");
        s.holds("How often a MEMBER of a DICTIONARY began to be worked", EdgesOfPromises::begunHowOften);
        s.holds("(its BODY, or STANDARD).", EdgesOfPromises::begunBodyOrStandard);
        s.holds("BAD.", EdgesOfPromises::begunBad);
    }

    private static void promisesOfCounts(Sentences s) {
        s.in("Promise 19");
        s.holds("Of a TYPE: what = 0 its CONSTRUCTOR, 1, 2 its ARGUMENTS (NONE),", EdgesOfPromises::typeOfParts);
        s.holds("3 whether it is CLOSED (1, 0).", EdgesOfPromises::typeOfClosed);
        s.holds("BAD.", EdgesOfPromises::typeOfBad);
        s.in("Promise 20");
        s.holds("How many: 0 CONSTRUCTORS, 1 TYPES, 2 CLASSES, 3 INSTANCES, 4 NODES, 5 DICTIONARIES,",
            EdgesOfPromises::countEach);
        s.holds("6 STEPS of the latest value().", EdgesOfPromises::countSteps);
        s.holds("BAD.", EdgesOfPromises::countBad);
    }

    private static void newObject() {
        Counted x = new Counted();
        int[] counts = {0, 2, 0, 0, 0, 0, 0};
        for (int what = 0; what <= 6; what++) {
            due("count(" + what + ")", x.count(what), counts[what]);
        }
        for (int t = 0; t <= 1; t++) {
            dueType("variable", x, t, NONE, NONE, NONE);
            due("typeOf(" + t + ", 3)", x.typeOf(t, 3), 0);
        }
        due("typeOf(2, 0)", x.typeOf(2, 0), BAD);
        due("lack(0)", x.lack(0), NONE);
        due("lack(1)", x.lack(1), NONE);
        dueFault("no value() yet", x, 0, NONE, NONE);
        dueSteps("no value() yet", x);
        due("about(0, 0)", x.about(0, 0), BAD);
        due("part(0, 0)", x.part(0, 0), BAD);
        due("begun(0, 0)", x.begun(0, 0), BAD);
        due("the first constructor", x.constructor(0), 0);
        due("the first type", x.type(0, 0, 0), 2);
        due("the first class", x.cls(1), 0);
        due("the first instance", x.instance(0, 0), 0);
        due("the first node", x.node(OWN, 0, 0, 0), 0);
        due("the first dictionary", x.dictionary(0, 2), 0);
        x.value(0, 0);
        due("without a body or standard", x.failed(0), MISSING);
        due("another object has nothing of it", new Counted().count(0), 0);
    }

    private static void constructorNumbers() {
        Counted x = new Counted();
        int[] places = {2, 2, 0, 1, 0, 1, 2, 0};
        for (int n = 0; n < 8; n++) {
            due("constructor " + n, x.constructor(places[n]), n);
        }
        for (int n = 0; n < 8; n++) {
            int type = x.type(n, 0, 1);
            dueType("places of " + n, x, type, n, places[n] > 0 ? 0 : NONE, places[n] > 1 ? 1 : NONE);
        }
    }

    private static void constructorRefusals() {
        Counted x = new Counted();
        for (int made = 0; made <= 8; made++) {
            for (int places : new int[] {-1, 3, Integer.MIN_VALUE, Integer.MAX_VALUE}) {
                due("constructor(" + places + ") after " + made, x.constructor(places), BAD);
            }
            due("one more", x.constructor(made % 3), made < 8 ? made : FULL);
        }
        due("count(0)", x.count(0), 8);
    }

    private static void typeArguments() {
        Counted x = scene();
        due("C2(0, 1)", x.type(2, 0, 1), 5);
        dueType("C2(0, 1)", x, 5, 2, 0, 1);
        due("C2(5, 5)", x.type(2, 5, 5), 6);
        dueType("C2(5, 5)", x, 6, 2, 5, 5);
        due("C1(6)", x.type(1, 6, 0), 7);
        dueType("C1(6)", x, 7, 1, 6, NONE);
    }

    private static void typeDoesNotLook() {
        Counted x = scene();
        for (int any : new int[] {0, 1, 2, 5, -1, -2, 80, Integer.MIN_VALUE, Integer.MAX_VALUE}) {
            due("C0 with " + any, x.type(0, any, any), 2);
            due("C1(2) with " + any, x.type(1, 2, any), 3);
        }
        due("a new one of C1", x.type(1, 4, -9), 5);
        dueType("a new one of C1", x, 5, 1, 4, NONE);
        x.constructor(0);
        due("a new one of C3", x.type(3, 99, -9), 6);
        dueType("a new one of C3", x, 6, 3, NONE, NONE);
        due("count(1)", x.count(1), 7);
    }

    private static void typeRefusals() {
        Counted x = scene();
        for (int round = 0; round < 2; round++) {
            int made = x.count(1);
            for (int out : OUTSIDE) {
                due("type(" + out + ", 2, 2)", x.type(out, 2, 2), BAD);
                due("type(1, " + out + ", 2)", x.type(1, out, 2), BAD);
                due("type(2, " + out + ", 2)", x.type(2, out, 2), BAD);
                due("type(2, 2, " + out + ")", x.type(2, 2, out), BAD);
            }
            due("type(3, 2, 2)", x.type(3, 2, 2), BAD);
            due("type(1, " + made + ", 2)", x.type(1, made, 2), BAD);
            due("type(2, " + made + ", 2)", x.type(2, made, 2), BAD);
            due("type(2, 2, " + made + ")", x.type(2, 2, made), BAD);
            due("count(1)", x.count(1), made);
            for (int t = made; t < 80; t++) {
                due("type " + t, x.type(1, t - 1, 0), t);
            }
        }
        due("one more", x.type(2, 2, 2), FULL);
        due("one more", x.type(1, 79, 0), FULL);
    }

    private static void clsNumbers() {
        Counted x = new Counted();
        int[] members = {4, 1, 3, 2, 4, 1, 1, 3};
        for (int c = 0; c < 8; c++) {
            due("class " + c, x.cls(members[c]), c);
        }
        for (int c = 0; c < 8; c++) {
            for (int m = 0; m < 5; m++) {
                due("member " + m + " of " + c, x.standard(c, m, NONE), m < members[c] ? 1 : BAD);
            }
        }
    }

    private static void clsRefusals() {
        Counted x = new Counted();
        for (int made = 0; made <= 8; made++) {
            for (int members : new int[] {0, 5, -1, Integer.MIN_VALUE, Integer.MAX_VALUE}) {
                due("cls(" + members + ") after " + made, x.cls(members), BAD);
            }
            due("one more", x.cls(1 + made % 4), made < 8 ? made : FULL);
        }
        due("count(2)", x.count(2), 8);
    }

    private static Counted withClasses(int many) {
        Counted x = scene();
        for (int n = 0; n < many; n++) {
            x.cls(1);
        }
        return x;
    }

    private static void superOfHowMany() {
        Counted x = withClasses(8);
        for (int c = 0; c < 8; c++) {
            for (int k = 0; k < Math.min(3, c); k++) {
                due("super " + k + " of " + c, x.superOf(c, c - 1 - k), k + 1);
            }
        }
    }

    private static void superOfRefusals() {
        Counted x = withClasses(6);
        for (int had = 0; had <= 3; had++) {
            for (int out : OUTSIDE) {
                due("superOf(" + out + ", 0)", x.superOf(out, 0), BAD);
                due("superOf(5, " + out + ")", x.superOf(5, out), BAD);
            }
            due("no class", x.superOf(6, 0), BAD);
            due("no class", x.superOf(5, 6), BAD);
            due("itself", x.superOf(5, 5), BAD);
            due("a greater one", x.superOf(4, 5), BAD);
            for (int k = 0; k < had; k++) {
                due("it has it", x.superOf(5, 2 * k), BAD);
            }
            due("with " + had, x.superOf(5, had < 3 ? 2 * had : 1), had < 3 ? had + 1 : FULL);
        }
        due("still no room", x.superOf(5, 3), FULL);
        due("class 0 has no lesser number", x.superOf(0, 0), BAD);
        due("class 1 has", x.superOf(1, 0), 1);
    }

    private static void instanceNumbers() {
        Counted x = withClasses(8);
        for (int n = 0; n < 20; n++) {
            due("instance " + n, x.instance(7 - n % 8, n / 8), n);
        }
        for (int n = 0; n < 8; n++) {
            due("of C0", x.about(x.dictionary(7 - n, 2), 2), n);
            due("of C1", x.about(x.dictionary(7 - n, 3), 2), 8 + n);
        }
    }

    private static void instanceRefusals() {
        Counted x = withClasses(8);
        for (int made = 0; made <= 20; made += 4) {
            for (int out : OUTSIDE) {
                due("instance(" + out + ", 0)", x.instance(out, 0), BAD);
                due("instance(0, " + out + ")", x.instance(0, out), BAD);
            }
            due("no class", x.instance(8, 0), BAD);
            due("no constructor", x.instance(7, 3), BAD);
            for (int n = made; n < made + 4; n++) {
                due("one more", x.instance(n % 8, n / 8), n < 20 ? n : FULL);
                due("the same", x.instance(n % 8, n / 8), n < 20 ? BAD : FULL);
            }
        }
        due("there is one", x.instance(0, 0), BAD);
        due("count(3)", x.count(3), 20);
    }

    private static void contextHowMany() {
        Counted x = withClasses(2);
        x.instance(0, 1);
        x.instance(1, 2);
        for (int k = 1; k <= 3; k++) {
            due("context " + k, x.context(0, k % 2, 0), k);
            due("context " + k + " of another", x.context(1, 1, k % 2), k);
        }
    }

    private static void contextRefusals() {
        Counted x = withClasses(2);
        for (int h = 0; h < 3; h++) {
            x.instance(0, h);
        }
        for (int had = 0; had <= 3; had++) {
            for (int out : OUTSIDE) {
                due("context(" + out + ", 0, 0)", x.context(out, 0, 0), BAD);
                due("context(2, " + out + ", 0)", x.context(2, out, 0), BAD);
                due("context(2, 0, " + out + ")", x.context(2, 0, out), BAD);
            }
            due("no instance", x.context(3, 0, 0), BAD);
            due("no class", x.context(2, 2, 0), BAD);
            due("no variable of two", x.context(2, 0, 2), BAD);
            due("no variable of one", x.context(1, 0, 1), BAD);
            due("no variable of none", x.context(0, 0, 0), BAD);
            due("one more", x.context(2, 1, 1), had < 3 ? had + 1 : FULL);
            due("one more", x.context(1, 1, 0), had < 3 ? had + 1 : FULL);
        }
    }

    private static void nodeKinds() {
        Counted x = withClasses(1);
        int[][] rows = {{NUMBER, -5, 0, 0}, {OWN, 0, 0, 0}, {OF_CONTEXT, 0, 0, 0}, {OF_SUPER, 0, 0, 0},
            {AT, 0, 0, 0}, {PLUS, 4, 3, 0}, {LESS, 2, 1, 0}, {TIMES, 6, 5, 0}, {OVER, 0, 7, 0}, {IF, 8, 0, 1}};
        for (int n = 0; n < rows.length; n++) {
            due("kind " + n, x.node(rows[n][0], rows[n][1], rows[n][2], rows[n][3]), n);
            due("the next kind is not looked for in its place", x.count(4), n + 1);
        }
        for (int kind : new int[] {-1, 10, 11, -2, Integer.MIN_VALUE, Integer.MAX_VALUE}) {
            due("kind " + kind, x.node(kind, 0, 0, 0), BAD);
        }
        for (int n = 0; n < rows.length; n++) {
            due("the same is another", x.node(rows[n][0], rows[n][1], rows[n][2], rows[n][3]), 10 + n);
        }
    }

    private static void nodeOwn() {
        Counted x = new Counted();
        for (int a = 0; a <= 3; a++) {
            due("own " + a + ", though there is no class", x.node(OWN, a, BAD, BAD), a);
        }
        for (int out : OUTSIDE) {
            due("own " + out, x.node(OWN, out, 0, 0), BAD);
        }
        due("own 4", x.node(OWN, 4, 0, 0), BAD);
        due("count(4)", x.count(4), 4);
    }

    private static void nodeOfContextOrSuper() {
        for (int kind = OF_CONTEXT; kind <= OF_SUPER; kind++) {
            Counted x = new Counted();
            for (int n = 0; n < 16; n++) {
                due("kind " + kind, x.node(kind, n / 4, n % 4, BAD), n);
            }
            for (int out : OUTSIDE) {
                due("kind " + kind + " a " + out, x.node(kind, out, 0, 0), BAD);
                due("kind " + kind + " b " + out, x.node(kind, 0, out, 0), BAD);
            }
            due("kind " + kind + " a 4", x.node(kind, 4, 0, 0), BAD);
            due("kind " + kind + " b 4", x.node(kind, 0, 4, 0), BAD);
            due("count(4)", x.count(4), 16);
        }
    }

    private static void nodeAt() {
        Counted x = scene();
        for (int members = 1; members <= 4; members++) {
            x.cls(members);
        }
        int made = 0;
        for (int c = 0; c < 4; c++) {
            for (int m = 0; m <= 4; m++) {
                due("member " + m + " of " + c, x.node(AT, c, m % 5, m), m <= c ? made : BAD);
                made += m <= c ? 1 : 0;
            }
        }
        for (int out : OUTSIDE) {
            due("class " + out, x.node(AT, out, 2, 0), BAD);
            due("type " + out, x.node(AT, 0, out, 0), BAD);
            due("member " + out, x.node(AT, 3, 2, out), BAD);
        }
        due("class 4", x.node(AT, 4, 2, 0), BAD);
        due("type 5", x.node(AT, 0, 5, 0), BAD);
        due("type 4", x.node(AT, 0, 4, 0), made);
        due("count(4)", x.count(4), made + 1);
    }

    private static void nodeHeight() {
        for (int kind = PLUS; kind <= IF; kind++) {
            Counted x = new Counted();
            x.node(NUMBER, 1, 0, 0);
            for (int high = 1; high <= 8; high++) {
                due("height " + high, x.node(kind, 0, high - 1, 0), high);
            }
            due("height 9", x.node(kind, 0, 8, 0), BAD);
            due("height 9", x.node(kind, 8, 0, 0), BAD);
            due("height 9", x.node(IF, 0, 0, 8), BAD);
            due("height 8 again", x.node(kind, 7, 7, 0), 9);
            due("count(4)", x.count(4), 10);
        }
    }

    private static void nodeOfNodes() {
        for (int kind = PLUS; kind <= IF; kind++) {
            Counted x = new Counted();
            due("no node yet", x.node(kind, 0, 0, 0), BAD);
            x.node(NUMBER, 1, 0, 0);
            for (int out : OUTSIDE) {
                due("kind " + kind + " a " + out, x.node(kind, out, 0, 0), BAD);
                due("kind " + kind + " b " + out, x.node(kind, 0, out, 0), BAD);
                due("if c " + out, x.node(IF, 0, 0, out), BAD);
            }
            due("itself", x.node(kind, 1, 0, 0), BAD);
            due("itself", x.node(kind, 0, 1, 0), BAD);
            due("itself", x.node(IF, 0, 0, 1), BAD);
            due("those that are there", x.node(kind, 0, 0, 0), 1);
        }
    }

    private static void nodeFull() {
        Counted x = withClasses(1);
        for (int n = 0; n < 80; n++) {
            due("node " + n, x.node(n == 0 ? NUMBER : OWN, 0, 0, 0), n);
        }
        for (int kind = NUMBER; kind <= IF; kind++) {
            due("kind " + kind, x.node(kind, 0, 0, 0), FULL);
        }
        due("kind 10", x.node(10, 0, 0, 0), BAD);
        due("count(4)", x.count(4), 80);
    }

    private static void bodyBecomes() {
        Counted x = withClasses(1);
        x.cls(4);
        x.instance(1, 0);
        x.node(NUMBER, 10, 0, 0);
        x.node(NUMBER, 11, 0, 0);
        for (int m = 0; m < 4; m++) {
            int[] nodes = {0, 1, 1, NONE, NONE, 0};
            for (int node : nodes) {
                due("body(0, " + m + ", " + node + ")", x.body(0, m, node), 1);
                x.dictionary(1, 2);
                due("value", x.value(0, m), node == NONE ? 0 : 10 + node);
                due("failed(0)", x.failed(0), node == NONE ? MISSING : 0);
            }
        }
    }

    private static void bodyRefusals() {
        Counted x = scene();
        x.cls(2);
        x.instance(0, 1);
        x.node(NUMBER, 5, 0, 0);
        x.node(OF_CONTEXT, 0, 0, 0);
        due("body(0, 0, 0)", x.body(0, 0, 0), 1);
        x.dictionary(0, 3);
        for (int out : OUTSIDE) {
            due("instance " + out, x.body(out, 0, 0), BAD);
            due("instance " + out + ", none", x.body(out, 0, NONE), BAD);
            due("member " + out, x.body(0, out, 0), BAD);
            due("member " + out + ", none", x.body(0, out, NONE), BAD);
            if (out != NONE) {
                due("node " + out, x.body(0, 0, out), BAD);
            }
        }
        due("instance 1", x.body(1, 0, 0), BAD);
        due("member 2", x.body(0, 2, 0), BAD);
        due("node 2", x.body(0, 0, 2), BAD);
        due("it does not fit", x.body(0, 0, 1), BAD);
        due("the dictionary stays", x.count(5), 1);
        due("and the body", x.value(0, 0), 5);
    }

    private static void standardBecomes() {
        Counted x = withClasses(1);
        x.cls(4);
        x.instance(1, 0);
        x.node(NUMBER, 10, 0, 0);
        x.node(NUMBER, 11, 0, 0);
        for (int m = 0; m < 4; m++) {
            int[] nodes = {0, 1, 1, NONE, NONE, 0};
            for (int node : nodes) {
                due("standard(1, " + m + ", " + node + ")", x.standard(1, m, node), 1);
                x.dictionary(1, 2);
                due("value", x.value(0, m), node == NONE ? 0 : 10 + node);
                due("failed(0)", x.failed(0), node == NONE ? MISSING : 0);
            }
        }
    }

    private static void standardRefusals() {
        Counted x = scene();
        x.cls(2);
        x.instance(0, 1);
        x.context(0, 0, 0);
        x.instance(0, 0);
        x.node(NUMBER, 5, 0, 0);
        x.node(OF_CONTEXT, 0, 0, 0);
        x.node(AT, 0, 1, 0);
        due("standard(0, 0, 0)", x.standard(0, 0, 0), 1);
        x.dictionary(0, 3);
        for (int out : OUTSIDE) {
            due("class " + out, x.standard(out, 0, 0), BAD);
            due("class " + out + ", none", x.standard(out, 0, NONE), BAD);
            due("member " + out, x.standard(0, out, 0), BAD);
            due("member " + out + ", none", x.standard(0, out, NONE), BAD);
            if (out != NONE) {
                due("node " + out, x.standard(0, 0, out), BAD);
            }
        }
        due("class 1", x.standard(1, 0, 0), BAD);
        due("member 2", x.standard(0, 2, 0), BAD);
        due("node 3", x.standard(0, 0, 3), BAD);
        due("a context", x.standard(0, 0, 1), BAD);
        due("variable 1", x.standard(0, 0, 2), BAD);
        due("the dictionaries stay", x.count(5), 2);
        due("and the standard", x.value(0, 0), 5);
    }

    private static void dictionaryNumbers() {
        Counted x = withClasses(2);
        x.instance(0, 0);
        x.instance(1, 1);
        x.context(1, 0, 0);
        due("made", x.dictionary(1, 3), 0);
        due("with its part", x.count(5), 2);
        due("it is there", x.dictionary(1, 3), 0);
        due("its part is there", x.dictionary(0, 2), 1);
        due("count(5)", x.count(5), 2);
    }

    private static void dictionaryBad() {
        Counted x = withClasses(2);
        x.instance(0, 0);
        x.instance(0, 1);
        for (int out : OUTSIDE) {
            due("class " + out, x.dictionary(out, 2), BAD);
            due("type " + out, x.dictionary(0, out), BAD);
        }
        due("class 2", x.dictionary(2, 2), BAD);
        due("type 5", x.dictionary(0, 5), BAD);
        due("variable 0", x.dictionary(0, 0), BAD);
        due("variable 1", x.dictionary(0, 1), BAD);
        due("C1(1)", x.dictionary(0, x.type(1, 1, 0)), BAD);
        due("BAD goes ahead of LACKS", x.dictionary(1, 0), BAD);
        due("no lack", x.lack(0), NONE);
        due("count(5)", x.count(5), 0);
    }

    private static void dictionaryLacks() {
        Counted x = withClasses(3);
        x.instance(0, 1);
        x.context(0, 0, 0);
        due("no instance", x.dictionary(1, 2), LACKS);
        due("a part of a part", x.dictionary(0, 4), LACKS);
        due("lack(1)", x.lack(1), 2);
        due("count(5)", x.count(5), 0);
        x.instance(0, 0);
        due("now it is there", x.dictionary(0, 4), 0);
        due("count(5)", x.count(5), 3);
    }

    private static void dictionaryFull() {
        Counted x = wideScene();
        x.cls(1);
        fillDictionaries(x, 0, 60);
        due("no room", x.dictionary(6, 2), FULL);
        due("it is there", x.dictionary(5, 11), 59);
        due("BAD goes ahead", x.dictionary(6, 0), BAD);
        due("LACKS goes ahead", x.dictionary(7, 2), LACKS);
        due("count(5)", x.count(5), 60);
        due("cls() that is FULL", x.cls(1), FULL);
        due("does not make room", x.dictionary(6, 2), FULL);
        x.body(0, 0, NONE);
        due("there is room again", x.dictionary(6, 2), 0);
    }

    /** CLASSES 0, 1, 2 of which 1, 2 have no INSTANCES; MEMBER 0 of DICTIONARY 0 lacks CLASS 2 at C1(C0). */
    private static Counted sceneOfLacks() {
        Counted x = withClasses(3);
        x.instance(0, 0);
        x.body(0, 0, x.node(AT, 2, 3, 0));
        x.dictionary(0, 2);
        return x;
    }

    private static void dueLack(String what, Counted x, int cls, int type) {
        due(what + ": lack(0)", x.lack(0), cls);
        due(what + ": lack(1)", x.lack(1), type);
    }

    private static void latestLacks() {
        Counted x = sceneOfLacks();
        due("dictionary()", x.dictionary(1, 2), LACKS);
        dueLack("of dictionary()", x, 1, 2);
        x.value(0, 0);
        dueLack("of value()", x, 2, 3);
        due("dictionary()", x.dictionary(0, 4), LACKS);
        dueLack("of dictionary() again", x, 0, 4);
        due("dictionary() that is there", x.dictionary(0, 2), 0);
        due("dictionary() that is BAD", x.dictionary(1, 0), BAD);
        due("value() that is BAD", x.value(5, 0), 0);
        x.cls(1);
        x.instance(0, 1);
        dueLack("it stays", x, 0, 4);
        due("now it is there", x.dictionary(0, 4), 0);
        dueLack("it stays the latest", x, 0, 4);
    }

    private static void lackWhat() {
        Counted x = scene();
        for (int c = 0; c < 4; c++) {
            x.cls(1);
        }
        x.superOf(3, 1);
        x.superOf(3, 2);
        x.instance(3, 1);
        x.context(0, 0, 0);
        x.instance(0, 0);
        due("dictionary(3, 3)", x.dictionary(3, 3), LACKS);
        dueLack("what was not there, not what was asked for", x, 1, 3);
        x.instance(1, 1);
        due("dictionary(3, 3)", x.dictionary(3, 3), LACKS);
        dueLack("the next that is not there", x, 2, 3);
        due("dictionary(3, 4)", x.dictionary(3, 4), LACKS);
        dueLack("in a context", x, 0, 3);
    }

    private static void lackNone() {
        Counted x = wideScene();
        dueLack("nothing was asked for", x, NONE, NONE);
        x.body(0, 0, x.node(AT, 6, 2, 0));
        fillDictionaries(x, 0, 60);
        due("FULL is no LACKS", x.dictionary(6, 2), FULL);
        dueLack("after FULL", x, NONE, NONE);
        x.value(0, 0);
        due("failed(0)", x.failed(0), NO_ROOM);
        dueLack("after a value() without room", x, NONE, NONE);
        x.value(1, 0);
        due("failed(0)", x.failed(0), MISSING);
        dueLack("after a value() that is missing", x, NONE, NONE);
        due("BAD is no LACKS", x.dictionary(0, 0), BAD);
        dueLack("after BAD", x, NONE, NONE);
    }

    private static void lackBad() {
        Counted x = sceneOfLacks();
        for (int round = 0; round < 2; round++) {
            for (int out : OUTSIDE) {
                due("lack(" + out + ")", x.lack(out), BAD);
            }
            due("lack(2)", x.lack(2), BAD);
            x.dictionary(1, 2);
        }
        dueLack("it is told still", x, 1, 2);
    }

    private static void kthPart() {
        Counted x = withClasses(4);
        for (int c = 0; c < 4; c++) {
            x.instance(c, 0);
            x.instance(c, 1);
        }
        for (int k = 0; k < 3; k++) {
            x.context(7, k, 0);
            x.superOf(3, 2 - k);
        }
        due("dictionary(3, 3)", x.dictionary(3, 3), 0);
        int[][] parts = {{0, 2}, {1, 2}, {2, 2}, {2, 3}, {1, 3}, {0, 3}};
        for (int k = 0; k < 6; k++) {
            int part = x.part(0, k);
            due("part(0, " + k + ")", part, k + 1);
            due("its class", x.about(part, 0), parts[k][0]);
            due("its type", x.about(part, 1), parts[k][1]);
        }
        due("part(0, 6)", x.part(0, 6), BAD);
        due("part(1, 0)", x.part(1, 0), BAD);
    }

    private static void partBad() {
        Counted x = withClasses(1);
        x.instance(0, 0);
        x.instance(0, 1);
        x.context(1, 0, 0);
        due("no dictionary yet", x.part(0, 0), BAD);
        x.dictionary(0, 3);
        for (int out : OUTSIDE) {
            due("part(" + out + ", 0)", x.part(out, 0), BAD);
            due("part(0, " + out + ")", x.part(0, out), BAD);
        }
        due("part(0, 0)", x.part(0, 0), 1);
        due("part(0, 1)", x.part(0, 1), BAD);
        due("one without parts", x.part(1, 0), BAD);
        due("part(2, 0)", x.part(2, 0), BAD);
        x.cls(1);
        due("taken away", x.part(0, 0), BAD);
    }

    private static void aboutWhat() {
        Counted x = withClasses(2);
        x.superOf(1, 0);
        x.instance(1, 1);
        x.instance(0, 1);
        x.instance(0, 0);
        x.context(0, 0, 0);
        x.context(0, 0, 0);
        due("dictionary(1, 3)", x.dictionary(1, 3), 0);
        int[][] rows = {{1, 3, 0, 3}, {0, 2, 2, 0}, {0, 3, 1, 0}};
        for (int d = 0; d < 3; d++) {
            for (int what = 0; what < 4; what++) {
                due("about(" + d + ", " + what + ")", x.about(d, what), rows[d][what]);
            }
        }
    }

    private static void aboutHanging() {
        Counted x = withClasses(2);
        x.superOf(1, 0);
        x.instance(1, 1);
        x.instance(0, 1);
        x.instance(0, 0);
        x.context(0, 0, 0);
        x.context(0, 0, 0);
        x.context(1, 0, 0);
        x.dictionary(1, 3);
        int[] hanging = {3, 1, 2};
        for (int d = 0; d < 3; d++) {
            due("about(" + d + ", 4)", x.about(d, 4), hanging[d]);
        }
        due("another", x.dictionary(0, 4), 3);
        due("one above hangs on none of its own", x.about(3, 4), 3);
        for (int d = 0; d < 3; d++) {
            due("about(" + d + ", 4) as before", x.about(d, 4), hanging[d]);
        }
        Counted y = chain(60, 5);
        for (int d = 0; d < 60; d++) {
            due("in a chain: about(" + d + ", 4)", y.about(d, 4), 60 - d);
        }
        Counted z = chain(1, 5);
        for (int t = 3; t < 8; t++) {
            due("one more above", z.dictionary(0, z.type(1, t - 1, 0)), t - 2);
        }
        for (int again = 0; again < 2; again++) {
            for (int d = 5; d >= 0; d--) {
                due("the parts have lesser numbers: about(" + d + ", 4)", z.about(d, 4), d + 1);
            }
        }
    }

    private static void aboutBad() {
        Counted x = withClasses(1);
        x.instance(0, 0);
        due("no dictionary yet", x.about(0, 0), BAD);
        x.dictionary(0, 2);
        for (int out : OUTSIDE) {
            due("about(0, " + out + ")", x.about(0, out), BAD);
            for (int what = 0; what < 5; what++) {
                due("about(" + out + ", " + what + ")", x.about(out, what), BAD);
            }
        }
        due("about(0, 5)", x.about(0, 5), BAD);
        for (int what = 0; what < 5; what++) {
            due("about(1, " + what + ")", x.about(1, what), BAD);
        }
        x.standard(0, 0, NONE);
        due("taken away", x.about(0, 0), BAD);
    }

    /** DICTIONARY 0, at C0: MEMBERS that are 5, 0, -2 and one that is missing. */
    private static Counted sceneOfValues() {
        Counted x = scene();
        x.cls(4);
        x.instance(0, 0);
        x.body(0, 0, x.node(NUMBER, 5, 0, 0));
        x.body(0, 1, x.node(NUMBER, 0, 0, 0));
        x.standard(0, 2, x.node(NUMBER, BAD, 0, 0));
        x.dictionary(0, 2);
        return x;
    }

    private static void valueWorked() {
        Counted x = sceneOfValues();
        long[] values = {5, 0, BAD};
        for (int again = 0; again < 2; again++) {
            for (int m = 0; m < 3; m++) {
                due("value(0, " + m + ")", x.value(0, m), values[m]);
                dueFault("value(0, " + m + ")", x, 0, NONE, NONE);
            }
        }
    }

    private static void valueWithFault() {
        Counted x = sceneOfValues();
        due("value(0, 0)", x.value(0, 0), 5);
        due("nothing of the one before is left", x.value(0, 3), 0);
        dueFault("value(0, 3)", x, MISSING, 0, 3);
        Counted y = scene();
        y.cls(2);
        y.instance(0, 0);
        int seven = y.node(NUMBER, 7, 0, 0);
        y.body(0, 0, y.node(PLUS, seven, y.node(OWN, 1, 0, 0), 0));
        y.dictionary(0, 2);
        due("nor of what came ahead of the fault", y.value(0, 0), 0);
        dueFault("value(0, 0)", y, MISSING, 0, 1);
    }

    private static void valueBad() {
        Counted x = sceneOfValues();
        int[] outside = {-1, -2, 1, 60, 100, Integer.MIN_VALUE, Integer.MAX_VALUE};
        for (int out : outside) {
            due("value(0, 0)", x.value(0, 0), 5);
            due("value(" + out + ", 0)", x.value(out, 0), 0);
            dueFault("dictionary " + out, x, BAD, NONE, NONE);
        }
        for (int out : new int[] {-1, 4, 5, 100, Integer.MIN_VALUE, Integer.MAX_VALUE}) {
            due("value(0, 0)", x.value(0, 0), 5);
            due("value(0, " + out + ")", x.value(0, out), 0);
            dueFault("member " + out, x, BAD, NONE, NONE);
        }
        x.cls(1);
        due("taken away", x.value(0, 0), 0);
        due("failed(0)", x.failed(0), BAD);
    }

    private static void failedLatest() {
        Counted x = sceneOfValues();
        due("none yet", x.failed(0), 0);
        x.value(0, 3);
        due("a fault", x.failed(0), MISSING);
        x.value(0, 0);
        due("none", x.failed(0), 0);
        x.value(0, 4);
        due("BAD", x.failed(0), BAD);
        x.value(0, 0);
        due("worked before", x.failed(0), 0);
        x.value(1, 0);
        due("BAD", x.failed(0), BAD);
        x.value(0, 3);
        due("a fault", x.failed(0), MISSING);
        x.dictionary(0, 3);
        x.begun(0, 0);
        x.step(0, 0);
        due("other calls are no value()", x.failed(0), MISSING);
    }

    private static void failedWithout() {
        Counted x = sceneOfValues();
        dueFault("none yet", x, 0, NONE, NONE);
        x.value(0, 3);
        dueFault("a fault", x, MISSING, 0, 3);
        x.value(0, 0);
        dueFault("none", x, 0, NONE, NONE);
        x.value(0, 3);
        x.value(0, -1);
        dueFault("BAD is no fault", x, BAD, NONE, NONE);
    }

    private static void failedBad() {
        Counted x = sceneOfValues();
        for (int m = 0; m <= 4; m++) {
            for (int out : OUTSIDE) {
                due("failed(" + out + ")", x.failed(out), BAD);
            }
            due("failed(3)", x.failed(3), BAD);
            x.value(0, m);
        }
    }

    private static void failedNumbersThen() {
        Counted x = chain(3, NONE);
        x.value(0, 0);
        dueFault("the last of the chain", x, MISSING, 2, 0);
        x.cls(1);
        due("count(5)", x.count(5), 0);
        dueFault("as they were then", x, MISSING, 2, 0);
        due("another dictionary is 0 now", x.dictionary(0, 2), 0);
        dueFault("as they were then", x, MISSING, 2, 0);
        x.value(0, 0);
        dueFault("as they are now", x, MISSING, 0, 0);
    }

    private static void stepsOfLatest() {
        Counted x = chain(3, 5);
        x.body(0, 1, 0);
        x.dictionary(0, 4);
        dueSteps("none yet", x);
        x.value(1, 0);
        dueSteps("value(1, 0)", x, 2, 0, 1, 0);
        x.value(0, 0);
        dueSteps("value(0, 0)", x, 0, 0);
        x.value(2, 1);
        dueSteps("value(2, 1)", x, 2, 1);
        x.cls(1);
        dueSteps("numbers as they were", x, 2, 1);
        x.dictionary(0, 3);
        x.value(0, 0);
        dueSteps("numbers as they are", x, 1, 0, 0, 0);
        x.value(0, 5);
        dueSteps("BAD", x);
        x.value(0, 1);
        dueSteps("a fault", x);
    }

    /** All four MEMBERS of all 60 DICTIONARIES in one value(). */
    private static void allMembersAreSteps() {
        Counted x = sceneOfTwoChains();
        int own = NONE;
        for (int m = 1; m < 4; m++) {
            x.standard(0, m, x.node(NUMBER, m, 0, 0));
            own = m == 1 ? x.node(OWN, 1, 0, 0) : x.node(PLUS, own, x.node(OWN, m, 0, 0), 0);
        }
        int one = x.node(PLUS, own, x.node(OF_CONTEXT, 0, 0, 0), 0);
        int two = x.node(PLUS, one, x.node(OF_CONTEXT, 1, 0, 0), 0);
        int[] bodies = {own, one, two, own};
        for (int h = 0; h < 4; h++) {
            x.body(h, 0, bodies[h]);
        }
        makeTwoChains(x);
        due("value(0, 0)", x.value(0, 0), 360);
        due("count(6)", x.count(6), 240);
        int[][] steps = expectedSteps();
        for (int k = 0; k < 240; k += k < 4 || k > 234 ? 1 : 2) {
            due("step(" + k + ", 0)", x.step(k, 0), steps[k][0]);
            due("step(" + k + ", 1)", x.step(k, 1), steps[k][1]);
        }
        due("step(239, 0)", x.step(239, 0), 0);
        due("step(240, 0)", x.step(240, 0), NONE);
        due("step(240, 1)", x.step(240, 1), NONE);
    }

    private static int[][] expectedSteps() {
        int[][] steps = new int[240][];
        int k = 0;
        int[][] chains = {{0, 0}, {1, 30}, {31, 59}};
        for (int[] chain : chains) {
            for (int d = chain[0]; d <= chain[1]; d++) {
                for (int m = 1; m < 4; m++) {
                    steps[k++] = new int[] {d, m};
                }
            }
            for (int d = chain[1]; d >= chain[0] && d > 0; d--) {
                steps[k++] = new int[] {d, 0};
            }
        }
        steps[k] = new int[] {0, 0};
        return steps;
    }

    private static void stepNone() {
        Counted x = sceneOfValues();
        for (int m = 3; m >= 0; m--) {
            for (int out : OUTSIDE) {
                due("step(" + out + ", 0)", x.step(out, 0), NONE);
                due("step(" + out + ", 1)", x.step(out, 1), NONE);
            }
            x.value(0, m);
        }
        due("step(0, 1)", x.step(0, 1), 0);
        due("step(1, 0)", x.step(1, 0), NONE);
        due("step(1, 1)", x.step(1, 1), NONE);
        x.value(0, 0);
        due("worked before", x.step(0, 0), NONE);
    }

    private static void stepBad() {
        Counted x = sceneOfValues();
        for (int round = 0; round < 2; round++) {
            for (int k = -1; k <= 1; k++) {
                due("step(" + k + ", 2)", x.step(k, 2), BAD);
                for (int out : OUTSIDE) {
                    due("step(" + k + ", " + out + ")", x.step(k, out), BAD);
                }
            }
            x.value(0, 0);
        }
    }

    private static void begunHowOften() {
        Counted x = chain(2, NONE);
        for (int times = 1; times <= 5; times++) {
            x.value(0, 0);
            due("each time", x.begun(0, 0), times);
            due("it is missing", x.begun(1, 0), 0);
        }
        Counted y = chain(2, 5);
        due("not yet", y.begun(0, 0), 0);
        due("not yet", y.begun(1, 0), 0);
        for (int times = 1; times <= 3; times++) {
            y.value(0, 0);
            due("once", y.begun(0, 0), 1);
            due("once", y.begun(1, 0), 1);
        }
        due("another member", y.begun(0, 1), 0);
        y.cls(1);
        y.dictionary(0, 3);
        due("of a new dictionary not yet", y.begun(0, 0), 0);
        due("of a new dictionary not yet", y.begun(1, 0), 0);
        Counted z = scene();
        z.cls(1);
        z.instance(0, 0);
        z.body(0, 0, z.node(OWN, 0, 0, 0));
        z.dictionary(0, 2);
        z.value(0, 0);
        due("a ring begins once", z.begun(0, 0), 1);
    }

    private static void begunBodyOrStandard() {
        Counted x = sceneOfValues();
        for (int m = 0; m < 4; m++) {
            x.value(0, m);
        }
        due("a body", x.begun(0, 0), 1);
        due("a standard", x.begun(0, 2), 1);
        due("neither", x.begun(0, 3), 0);
        Counted y = chain(41, 5);
        y.value(0, 0);
        due("what would be too deep did not begin", y.begun(40, 0), 0);
        due("the one above it did", y.begun(39, 0), 1);
    }

    private static void begunBad() {
        Counted x = sceneOfValues();
        for (int out : OUTSIDE) {
            due("begun(" + out + ", 0)", x.begun(out, 0), BAD);
            due("begun(0, " + out + ")", x.begun(0, out), BAD);
        }
        due("begun(1, 0)", x.begun(1, 0), BAD);
        due("begun(0, 4)", x.begun(0, 4), BAD);
        due("begun(0, 3)", x.begun(0, 3), 0);
        Counted y = withClasses(1);
        y.instance(0, 0);
        y.instance(0, 1);
        due("no dictionary yet", y.begun(0, 0), BAD);
        y.dictionary(0, 2);
        y.dictionary(0, 3);
        due("a class with one member", y.begun(0, 1), BAD);
        due("a class with one member", y.begun(1, 1), BAD);
        y.body(0, 0, NONE);
        due("taken away", y.begun(0, 0), BAD);
    }

    private static void typeOfParts() {
        Counted x = scene();
        x.type(2, 4, 1);
        int[][] rows = {{NONE, NONE, NONE}, {NONE, NONE, NONE}, {0, NONE, NONE}, {1, 2, NONE}, {1, 3, NONE}, {2, 4, 1}};
        for (int t = 0; t < rows.length; t++) {
            dueType("type " + t, x, t, rows[t][0], rows[t][1], rows[t][2]);
        }
    }

    private static void typeOfClosed() {
        Counted x = scene();
        x.type(2, 4, 1);
        x.type(2, 0, 4);
        x.type(2, 4, 2);
        x.type(1, 5, 0);
        x.type(1, 7, 0);
        int[] closed = {0, 0, 1, 1, 1, 0, 0, 1, 0, 1};
        for (int t = 0; t < closed.length; t++) {
            due("typeOf(" + t + ", 3)", x.typeOf(t, 3), closed[t]);
        }
    }

    private static void typeOfBad() {
        Counted x = scene();
        for (int out : OUTSIDE) {
            for (int what = 0; what < 4; what++) {
                due("typeOf(" + out + ", " + what + ")", x.typeOf(out, what), BAD);
            }
            for (int t = 0; t < 5; t++) {
                due("typeOf(" + t + ", " + out + ")", x.typeOf(t, out), BAD);
            }
        }
        for (int t = 0; t < 5; t++) {
            due("typeOf(" + t + ", 4)", x.typeOf(t, 4), BAD);
        }
        due("typeOf(5, 0)", x.typeOf(5, 0), BAD);
        x.type(1, 4, 0);
        due("typeOf(5, 0)", x.typeOf(5, 0), 1);
        due("typeOf(6, 0)", x.typeOf(6, 0), BAD);
    }

    private static void countEach() {
        Counted x = new Counted();
        int[] counts = {0, 2, 0, 0, 0, 0};
        dueCounts(x, counts);
        for (int n = 0; n < 3; n++) {
            x.constructor(0);
            counts[0]++;
            dueCounts(x, counts);
            x.type(n, 0, 0);
            counts[1]++;
            dueCounts(x, counts);
            x.cls(1);
            counts[2]++;
            counts[5] = 0;
            dueCounts(x, counts);
            x.instance(n, n);
            counts[3]++;
            dueCounts(x, counts);
            x.node(NUMBER, n, 0, 0);
            counts[4]++;
            dueCounts(x, counts);
            x.dictionary(n, 2 + n);
            counts[5]++;
            dueCounts(x, counts);
        }
    }

    private static void dueCounts(Counted x, int[] counts) {
        for (int what = 0; what < counts.length; what++) {
            due("count(" + what + ")", x.count(what), counts[what]);
        }
    }

    private static void countSteps() {
        Counted x = chain(3, 5);
        due("no value() yet", x.count(6), 0);
        x.value(0, 0);
        due("three", x.count(6), 3);
        x.dictionary(0, 2);
        due("other calls", x.count(6), 3);
        x.cls(1);
        due("without dictionaries", x.count(6), 3);
        x.value(0, 0);
        due("BAD", x.count(6), 0);
        x.dictionary(0, 4);
        x.value(2, 0);
        due("one", x.count(6), 1);
        x.value(0, 0);
        due("the two others", x.count(6), 2);
        x.value(0, 0);
        due("worked before", x.count(6), 0);
    }

    private static void countBad() {
        Counted x = sceneOfValues();
        for (int out : OUTSIDE) {
            due("count(" + out + ")", x.count(out), BAD);
        }
        due("count(7)", x.count(7), BAD);
        due("count(6)", x.count(6), 0);
    }
}
