/** Sentences of the document's ==== 2: CLASSES, INSTANCES, NODES, what FITS. */
final class EdgesOfClasses extends Checks {
    static void all(Sentences s) {
        s.in("Terms");
        s.holds("==== 2 CLASSES 0 .. 7", EdgesOfClasses::eightClasses);
        s.holds("have 1 to 4 MEMBERS (from 0 on),", EdgesOfClasses::membersOfClasses);
        s.holds("SUPERS (3 at most:", EdgesOfClasses::threeSupers);
        s.holds("CLASSES of lesser numbers,", EdgesOfClasses::supersAreLesser);
        s.holds("none twice),", EdgesOfClasses::noSuperTwice);
        s.holds("and for each MEMBER perhaps a STANDARD, a NODE.", EdgesOfClasses::standardsOfAllMembers);
        s.holds("INSTANCES 0 .. 19", EdgesOfClasses::twentyInstances);
        s.holds("are each of a CLASS and a CONSTRUCTOR (one for both at most),", EdgesOfClasses::oneForBoth);
        s.holds("with CONTEXTS (3 at most:", EdgesOfClasses::threeContexts);
        s.holds("a CLASS and a VARIABLE below the PLACES)", EdgesOfClasses::contextsBelowPlaces);
        s.holds("a CLASS and a VARIABLE below the PLACES)", EdgesOfClasses::contextsOfAnyClass);
        s.holds("and for each MEMBER perhaps a BODY, a NODE.", EdgesOfClasses::bodiesOfAllMembers);
        s.holds("NODES 0 .. 79:", EdgesOfClasses::eightyNodes);
        s.holds("0 NUMBER a.", EdgesOfClasses::numbers);
        s.holds("1 OWN: MEMBER a of the dictionary at hand.", EdgesOfClasses::own);
        s.holds("2 OF CONTEXT a the MEMBER b.", EdgesOfClasses::ofContext);
        s.holds("3 OF SUPER a the MEMBER b.", EdgesOfClasses::ofSuper);
        s.holds("4 AT: of CLASS a at TYPE b the MEMBER c.", EdgesOfClasses::at);
        s.holds("5 PLUS, 6 LESS, 7 TIMES, 8 OVER of NODES a, b.", EdgesOfClasses::sums);
        s.holds("9 IF: NODE a is not 0: NODE b, else c.", EdgesOfClasses::ifs);
        s.holds("A NODE's HEIGHT is 0 without NODES in it,", EdgesOfClasses::heightZero);
        s.holds("else 1 more than the greatest in it:", EdgesOfClasses::heightByTheGreatest);
        s.holds("8 at most.", EdgesOfClasses::heightEight);
        fits(s);
    }

    private static void fits(Sentences s) {
        s.holds("A NODE FITS an INSTANCE as BODY, if what stands in it", EdgesOfClasses::fitsWithin);
        s.holds("(also in IFS, on either side) is there:", EdgesOfClasses::fitsInIfs);
        s.holds("MEMBERS of CLASSES,", EdgesOfClasses::fitsByMembers);
        s.holds("CONTEXTS that it has,", EdgesOfClasses::fitsByContexts);
        s.holds("SUPERS that its CLASS has,", EdgesOfClasses::fitsBySupers);
        s.holds("VARIABLES below its PLACES;", EdgesOfClasses::fitsByVariables);
        s.holds("a CLASS as STANDARD likewise,", EdgesOfClasses::fitsAsStandard);
        s.holds("a CLASS as STANDARD likewise,", EdgesOfClasses::fitsAsStandardWithin);
        s.holds("but no CONTEXT,", EdgesOfClasses::noContextInStandards);
        s.holds("and no VARIABLE but 0,", EdgesOfClasses::noVariableButZero);
        s.holds("which is the dictionary's own TYPE there.", EdgesOfClasses::variableOfStandards);
    }

    private static void eightClasses() {
        Counted x = new Counted();
        for (int n = 0; n < 8; n++) {
            due("class " + n + " ahead of it", x.standard(n, 0, NONE), BAD);
            due("class " + n, x.cls(1), n);
            due("class " + n + " is there", x.standard(n, 0, NONE), 1);
            due("count(2)", x.count(2), n + 1);
        }
        for (int members = 1; members <= 4; members++) {
            due("a ninth of " + members, x.cls(members), FULL);
        }
        due("class 8", x.standard(8, 0, NONE), BAD);
        due("count(2)", x.count(2), 8);
    }

    private static void membersOfClasses() {
        Counted x = new Counted();
        for (int members : new int[] {0, 5, 6, -1, -2, -3, -4, Integer.MIN_VALUE, Integer.MAX_VALUE}) {
            due("cls(" + members + ")", x.cls(members), BAD);
        }
        due("count(2)", x.count(2), 0);
        for (int members = 1; members <= 4; members++) {
            due("cls(" + members + ")", x.cls(members), members - 1);
        }
        for (int c = 0; c < 4; c++) {
            for (int m = -1; m <= 5; m++) {
                boolean there = m >= 0 && m <= c;
                due("standard(" + c + ", " + m + ")", x.standard(c, m, NONE), there ? 1 : BAD);
                due("member " + m + " of class " + c, x.node(AT, c, 0, m) >= 0 ? 1 : BAD, there ? 1 : BAD);
            }
        }
    }

    private static void threeSupers() {
        Counted x = scene();
        for (int n = 0; n < 6; n++) {
            x.cls(1);
            x.instance(n, 0);
        }
        for (int k = 1; k <= 3; k++) {
            due("super " + k, x.superOf(5, k), k);
            due("dictionary", x.dictionary(5, 2), 0);
            due("parts", x.about(0, 3), k);
        }
        due("a fourth", x.superOf(5, 0), FULL);
        due("a fourth", x.superOf(5, 4), FULL);
        due("parts", x.about(0, 3), 3);
        due("another class has room", x.superOf(4, 0), 1);
    }

    private static void supersAreLesser() {
        Counted x = new Counted();
        for (int n = 0; n < 8; n++) {
            x.cls(1);
        }
        for (int c = 0; c < 8; c++) {
            due(c + " over itself", x.superOf(c, c), BAD);
            due(c + 1 + " over " + c, x.superOf(c, c + 1), BAD);
            due("7 over " + c, x.superOf(c, 7), BAD);
            due("the one before " + c, x.superOf(c, c - 1), c > 0 ? 1 : BAD);
            due("0 over " + c, x.superOf(c, 0), c > 1 ? 2 : BAD);
        }
    }

    private static void noSuperTwice() {
        Counted x = new Counted();
        for (int n = 0; n < 5; n++) {
            x.cls(1);
        }
        for (int k = 1; k <= 3; k++) {
            due("super " + k, x.superOf(4, 3 - k), k);
            for (int had = 1; had <= k; had++) {
                due("super " + had + " again", x.superOf(4, 3 - had), BAD);
            }
        }
        due("another class may have it", x.superOf(3, 2), 1);
        due("once", x.superOf(3, 2), BAD);
    }

    private static void standardsOfAllMembers() {
        Counted x = scene();
        x.cls(4);
        x.cls(4);
        x.instance(0, 0);
        x.instance(1, 0);
        for (int c = 0; c < 2; c++) {
            for (int m = 0; m < 4; m++) {
                due("none at first", missing(x, c, m), MISSING);
                x.standard(c, m, x.node(NUMBER, 10 * c + m + 1, 0, 0));
            }
        }
        for (int c = 0; c < 2; c++) {
            int d = x.dictionary(c, 2);
            for (int m = 0; m < 4; m++) {
                due("standard of " + c + ", " + m, x.value(d, m), 10 * c + m + 1);
            }
        }
        due("taken off", x.standard(1, 2, NONE), 1);
        due("it is none again", missing(x, 1, 2), MISSING);
        due("the others stay", missing(x, 1, 1), 0);
        due("the others stay", missing(x, 1, 3), 0);
        due("the others stay", missing(x, 0, 2), 0);
    }

    /** The FAULT of a MEMBER of a CLASS at C0. */
    private static int missing(Counted x, int cls, int member) {
        x.value(x.dictionary(cls, 2), member);
        return x.failed(0);
    }

    private static void twentyInstances() {
        Counted x = new Counted();
        for (int n = 0; n < 8; n++) {
            x.cls(1);
            x.constructor(0);
        }
        for (int n = 0; n < 20; n++) {
            due("instance " + n + " ahead of it", x.body(n, 0, NONE), BAD);
            due("instance " + n, x.instance(n / 8, n % 8), n);
            due("instance " + n + " is there", x.body(n, 0, NONE), 1);
            due("count(3)", x.count(3), n + 1);
        }
        due("one more", x.instance(2, 4), FULL);
        due("one more", x.instance(7, 7), FULL);
        due("instance 20", x.body(20, 0, NONE), BAD);
        due("count(3)", x.count(3), 20);
    }

    private static void oneForBoth() {
        Counted x = scene();
        x.cls(1);
        x.cls(1);
        due("instance(0, 0)", x.instance(0, 0), 0);
        due("another constructor", x.instance(0, 1), 1);
        due("another class", x.instance(1, 0), 2);
        due("another of both", x.instance(1, 1), 3);
        for (int c = 0; c < 2; c++) {
            for (int h = 0; h < 2; h++) {
                due("instance(" + c + ", " + h + ") again", x.instance(c, h), BAD);
            }
        }
        due("count(3)", x.count(3), 4);
        for (int c = 0; c < 2; c++) {
            due("about C0", x.about(x.dictionary(c, 2), 2), 2 * c);
            due("about C1", x.about(x.dictionary(c, 3), 2), 2 * c + 1);
        }
    }

    private static void threeContexts() {
        Counted x = scene();
        x.cls(1);
        x.instance(0, 0);
        x.instance(0, 1);
        x.instance(0, 2);
        for (int k = 1; k <= 3; k++) {
            due("context " + k, x.context(2, 0, k % 2), k);
            due("context " + k + " of another", x.context(1, 0, 0), k);
            int d = x.dictionary(0, 3);
            due("parts", x.about(d, 3), k);
        }
        due("a fourth", x.context(2, 0, 0), FULL);
        due("a fourth", x.context(2, 0, 1), FULL);
        due("a fourth of another", x.context(1, 0, 0), FULL);
        due("parts", x.about(x.dictionary(0, 3), 3), 3);
    }

    private static void contextsBelowPlaces() {
        Counted x = scene();
        x.cls(1);
        for (int places = 0; places <= 2; places++) {
            x.instance(0, places);
            int had = 0;
            for (int variable : new int[] {-1, 0, 1, 2, 3, -2, Integer.MIN_VALUE, Integer.MAX_VALUE}) {
                boolean below = variable >= 0 && variable < places;
                had += below ? 1 : 0;
                due("variable " + variable + " with places " + places,
                    x.context(places, 0, variable), below ? had : BAD);
            }
        }
    }

    /** Unlike a SUPER, a CONTEXT may be of any CLASS, and the same one twice. */
    private static void contextsOfAnyClass() {
        Counted x = scene();
        for (int c = 0; c < 3; c++) {
            x.cls(1);
        }
        x.instance(1, 1);
        due("a lesser class", x.context(0, 0, 0), 1);
        due("its own class", x.context(0, 1, 0), 2);
        due("a greater class", x.context(0, 2, 0), 3);
        x.instance(1, 2);
        for (int k = 1; k <= 3; k++) {
            due("the same", x.context(1, 2, 1), k);
        }
        due("no class", x.context(0, 3, 0), BAD);
    }

    private static void bodiesOfAllMembers() {
        Counted x = scene();
        x.cls(4);
        x.cls(4);
        x.instance(0, 0);
        x.instance(1, 0);
        for (int i = 0; i < 2; i++) {
            for (int m = 0; m < 4; m++) {
                due("none at first", missing(x, i, m), MISSING);
                x.body(i, m, x.node(NUMBER, 10 * i + m + 1, 0, 0));
            }
        }
        for (int i = 0; i < 2; i++) {
            int d = x.dictionary(i, 2);
            for (int m = 0; m < 4; m++) {
                due("body of " + i + ", " + m, x.value(d, m), 10 * i + m + 1);
            }
        }
        due("taken off", x.body(1, 2, NONE), 1);
        due("it is none again", missing(x, 1, 2), MISSING);
        due("the others stay", missing(x, 1, 1), 0);
        due("the others stay", missing(x, 1, 3), 0);
        due("the others stay", missing(x, 0, 2), 0);
    }

    private static void eightyNodes() {
        Counted x = scene();
        x.cls(1);
        x.instance(0, 0);
        for (int n = 0; n < 80; n++) {
            due("node " + n + " ahead of it", x.body(0, 0, n), BAD);
            due("node " + n, x.node(NUMBER, n + 500, 0, 0), n);
            due("node " + n + " is there", x.body(0, 0, n), 1);
            due("count(4)", x.count(4), n + 1);
        }
        due("one more", x.node(NUMBER, 0, 0, 0), FULL);
        due("one more", x.node(PLUS, 79, 79, 0), FULL);
        due("one more", x.node(AT, 0, 2, 0), FULL);
        due("node 80", x.body(0, 0, 80), BAD);
        due("count(4)", x.count(4), 80);
        x.dictionary(0, 2);
        due("node 79", x.value(0, 0), 579);
    }

    /** What a NODE comes to as BODY of MEMBER 0 of CLASS 0 at C0. */
    private static long workedTo(Counted x, int node) {
        x.body(0, 0, node);
        return x.value(x.dictionary(0, 2), 0);
    }

    private static Counted sceneToWork() {
        Counted x = scene();
        x.cls(2);
        x.instance(0, 0);
        return x;
    }

    private static void numbers() {
        Counted x = sceneToWork();
        int[] numbers = {0, 1, -1, -2, -3, -4, 80, Integer.MAX_VALUE, Integer.MIN_VALUE};
        for (int number : numbers) {
            due("number " + number, workedTo(x, x.node(NUMBER, number, number, number)), number);
            due("no fault", x.failed(0), 0);
        }
    }

    private static void own() {
        Counted x = scene();
        x.cls(4);
        x.instance(0, 0);
        x.instance(0, 1);
        x.context(1, 0, 0);
        for (int m = 1; m <= 3; m++) {
            x.body(0, m, x.node(NUMBER, 10 + m, 0, 0));
            x.body(1, m, x.node(NUMBER, 20 + m, 0, 0));
        }
        for (int m = 1; m <= 3; m++) {
            x.standard(0, 0, x.node(OWN, m, 0, 0));
            x.dictionary(0, 3);
            due("own " + m + " at C1(C0)", x.value(0, 0), 20 + m);
            due("own " + m + " at C0", x.value(1, 0), 10 + m);
        }
        x.standard(0, 0, NONE);
        x.body(0, 0, x.node(OWN, 3, 0, 0));
        x.body(1, 1, x.node(OF_CONTEXT, 0, 0, 0));
        x.dictionary(0, 3);
        due("at hand is the part's dictionary", x.value(0, 1), 13);
    }

    /** MEMBER m of CLASSES c = 0, 1, 2 at C1(C0), and of CLASS 3 at C0, is 10 c + m; INSTANCE 4: CLASS 4, C2. */
    private static Counted sceneOfParts(int contexts) {
        Counted x = scene();
        for (int c = 0; c < 5; c++) {
            x.cls(4);
            x.instance(c, c < 3 ? 1 : 2);
        }
        x.instance(3, 0);
        for (int c = 0; c < 3; c++) {
            for (int m = 0; m < 4; m++) {
                x.body(c, m, x.node(NUMBER, 10 * c + m, 0, 0));
            }
        }
        for (int m = 0; m < 4; m++) {
            x.body(5, m, x.node(NUMBER, 30 + m, 0, 0));
        }
        int[][] rows = {{1, 0}, {3, 1}, {0, 0}};
        for (int k = 0; k < contexts; k++) {
            x.context(4, rows[k][0], rows[k][1]);
        }
        return x;
    }

    private static void ofContext() {
        Counted x = sceneOfParts(3);
        int pair = x.type(2, 3, 2);
        int[] classes = {1, 3, 0};
        for (int k = 0; k < 3; k++) {
            for (int m = 0; m < 4; m++) {
                due("it fits", x.body(4, m, x.node(OF_CONTEXT, k, m, 0)), 1);
            }
            due("dictionary", x.dictionary(4, pair), 0);
            for (int m = 0; m < 4; m++) {
                due("context " + k + " member " + m, x.value(0, m), 10 * classes[k] + m);
            }
        }
    }

    private static void ofSuper() {
        int[] above = {1, 0, 2};
        for (int contexts = 0; contexts <= 3; contexts += 3) {
            Counted x = sceneOfParts(contexts);
            int pair = x.type(2, 3, 2);
            for (int k = 0; k < 3; k++) {
                x.superOf(4, above[k]);
                x.instance(above[k], 2);
                for (int m = 0; m < 4; m++) {
                    x.standard(above[k], m, x.node(NUMBER, 100 * above[k] + m, 0, 0));
                }
            }
            for (int k = 0; k < 3; k++) {
                for (int m = 0; m < 4; m++) {
                    due("it fits", x.body(4, m, x.node(OF_SUPER, k, m, 0)), 1);
                }
                due("dictionary", x.dictionary(4, pair), 0);
                for (int m = 0; m < 4; m++) {
                    due("super " + k + " member " + m + " after " + contexts + " contexts",
                        x.value(0, m), 100 * above[k] + m);
                }
            }
        }
    }

    private static void at() {
        Counted x = sceneOfParts(0);
        x.instance(4, 0);
        for (int c = 0; c < 3; c++) {
            for (int m = 0; m < 4; m++) {
                x.body(6, m, x.node(AT, c, 3, m));
            }
            int d = x.dictionary(4, 2);
            for (int m = 0; m < 4; m++) {
                due("of class " + c + " at C1(C0) member " + m, x.value(d, m), 10 * c + m);
            }
        }
        x.body(6, 0, x.node(AT, 3, 2, 3));
        due("of class 3 at C0 member 3", x.value(x.dictionary(4, 2), 0), 33);
        due("it was made", x.count(5), 2);
    }

    private static void sums() {
        Counted x = sceneToWork();
        int seven = x.node(NUMBER, 7, 0, 0);
        int three = x.node(NUMBER, 3, 0, 0);
        long[] there = {10, 4, 21, 2};
        long[] back = {10, -4, 21, 0};
        for (int kind = PLUS; kind <= OVER; kind++) {
            due("kind " + kind, workedTo(x, x.node(kind, seven, three, NONE)), there[kind - PLUS]);
            due("kind " + kind + " the other way", workedTo(x, x.node(kind, three, seven, BAD)), back[kind - PLUS]);
        }
        due("kind 9 with a third that is not there", x.node(IF, seven, three, NONE), BAD);
        due("kind 4 of numbers that are none", x.node(AT, 1, 0, 0), BAD);
    }

    private static void ifs() {
        Counted x = sceneToWork();
        int then = x.node(NUMBER, 11, 0, 0);
        int other = x.node(NUMBER, 22, 0, 0);
        for (int asked : new int[] {0, 1, -1, 2, Integer.MIN_VALUE, Integer.MAX_VALUE}) {
            due("if " + asked, workedTo(x, x.node(IF, x.node(NUMBER, asked, 0, 0), then, other)),
                asked != 0 ? 11 : 22);
        }
        due("if 2^32", workedTo(x, x.node(IF, longNode(x, 1L << 32), then, other)), 11);
        due("if what wraps to 0", workedTo(x, x.node(IF, longNode(x, 0), then, other)), 22);
    }

    /** As many NODES one above the other: the number of the last, of HEIGHT high. */
    private static int tower(Counted x, int high) {
        int node = x.node(NUMBER, 1, 0, 0);
        for (int n = 0; n < high; n++) {
            node = x.node(PLUS, node, node, 0);
        }
        return node;
    }

    private static void heightZero() {
        Counted x = scene();
        x.cls(4);
        int[][] rows = {{NUMBER, 7, 7, 7}, {OWN, 3, 7, 7}, {OF_CONTEXT, 3, 3, 7}, {OF_SUPER, 3, 3, 7}, {AT, 0, 4, 3}};
        for (int[] row : rows) {
            tower(x, 8);
            int low = x.node(row[0], row[1], row[2], row[3]);
            due("kind " + row[0] + " is there", low >= 0 ? 1 : 0, 1);
            for (int n = 1; n <= 8; n++) {
                low = x.node(PLUS, low, low, 0);
                due("kind " + row[0] + " " + n + " above it", low >= 0 ? 1 : 0, 1);
            }
            due("kind " + row[0] + " 9 above it", x.node(PLUS, low, low, 0), BAD);
            if (x.count(4) > 50) {
                x = scene();
                x.cls(4);
            }
        }
    }

    private static void heightByTheGreatest() {
        for (int kind = PLUS; kind <= IF; kind++) {
            for (int place = 0; place < (kind == IF ? 3 : 2); place++) {
                Counted x = new Counted();
                int low = x.node(NUMBER, 1, 0, 0);
                int high = tower(x, 7);
                int top = x.node(kind, place == 0 ? high : low, place == 1 ? high : low, place == 2 ? high : low);
                due("kind " + kind + " with 7 in place " + place, top, 9);
                due("8 in place " + place, x.node(kind, place == 0 ? top : low, place == 1 ? top : low,
                    place == 2 ? top : low), BAD);
                due("8 and 7", x.node(PLUS, high, top, 0), BAD);
                due("7 and 7 are 8", x.node(PLUS, high, high, 0), 10);
            }
        }
        Counted x = new Counted();
        int high = tower(x, 8);
        due("what a sum does not need has no height", x.node(PLUS, 0, 0, high), 9);
        due("it is 1", x.node(PLUS, 9, 9, high), 10);
    }

    private static void heightEight() {
        Counted x = sceneToWork();
        int high = tower(x, 8);
        due("height 8", high, 8);
        for (int kind = PLUS; kind <= IF; kind++) {
            due("height 9 of kind " + kind, x.node(kind, high, high, high), BAD);
        }
        due("count(4)", x.count(4), 9);
        due("it is worked", workedTo(x, high), 256);
    }

    /** INSTANCE 0 of CLASS 0 (two MEMBERS, no SUPERS), of a CONSTRUCTOR with one PLACE; NODE 0 is 5. */
    private static Counted sceneToFit() {
        Counted x = scene();
        x.cls(2);
        x.instance(0, 1);
        x.node(NUMBER, 5, 0, 0);
        return x;
    }

    private static int[] nodesThatDoNotFit(Counted x) {
        return new int[] {x.node(OWN, 2, 0, 0), x.node(OF_CONTEXT, 0, 0, 0), x.node(OF_SUPER, 0, 0, 0),
            x.node(AT, 0, 1, 0)};
    }

    private static void fitsWithin() {
        Counted x = sceneToFit();
        for (int bad : nodesThatDoNotFit(x)) {
            due("node " + bad + " itself", x.body(0, 0, bad), BAD);
            for (int kind = PLUS; kind <= OVER; kind++) {
                due("kind " + kind + " on the left", x.body(0, 0, x.node(kind, bad, 0, 0)), BAD);
                due("kind " + kind + " on the right", x.body(0, 0, x.node(kind, 0, bad, 0)), BAD);
            }
            int deep = bad;
            for (int n = 0; n < 8; n++) {
                deep = n % 2 == 0 ? x.node(PLUS, 0, deep, 0) : x.node(PLUS, deep, 0, 0);
            }
            due("node " + bad + " eight below", x.body(0, 0, deep), BAD);
            due("what stands beside it fits", x.body(0, 0, 0), 1);
        }
        due("what a sum does not need does not stand in it", x.body(0, 0, x.node(PLUS, 0, 0, 1)), 1);
    }

    private static void fitsInIfs() {
        Counted x = sceneToFit();
        int nothing = x.node(NUMBER, 0, 0, 0);
        for (int bad : nodesThatDoNotFit(x)) {
            for (int asked : new int[] {0, nothing}) {
                due("on the side of b", x.body(0, 0, x.node(IF, asked, bad, 0)), BAD);
                due("on the side of c", x.body(0, 0, x.node(IF, asked, 0, bad)), BAD);
                due("neither", x.body(0, 0, x.node(IF, asked, 0, 0)), 1);
            }
            due("asked", x.body(0, 0, x.node(IF, bad, 0, 0)), BAD);
            due("in an if within an if", x.body(0, 0, x.node(IF, 0, 0, x.node(IF, 0, bad, 0))), BAD);
        }
    }

    private static void fitsByMembers() {
        Counted x = scene();
        for (int members = 1; members <= 4; members++) {
            x.cls(members);
        }
        for (int c = 0; c < 4; c++) {
            x.instance(c, 1);
        }
        x.cls(1);
        x.instance(4, 1);
        for (int k = 0; k < 3; k++) {
            x.superOf(4, k);
            x.context(4, k + 1, 0);
        }
        for (int m = 0; m < 4; m++) {
            int own = x.node(OWN, m, 0, 0);
            for (int i = 0; i < 4; i++) {
                due("own " + m + " of " + (i + 1), x.body(i, 0, own), m <= i ? 1 : BAD);
            }
            for (int k = 0; k < 3; k++) {
                due("super " + k + " member " + m, x.body(4, 0, x.node(OF_SUPER, k, m, 0)), m <= k ? 1 : BAD);
                due("context " + k + " member " + m, x.body(4, 0, x.node(OF_CONTEXT, k, m, 0)),
                    m <= k + 1 ? 1 : BAD);
            }
        }
    }

    private static void fitsByContexts() {
        Counted x = sceneToFit();
        x.instance(0, 2);
        int[] nodes = new int[4];
        for (int a = 0; a < 4; a++) {
            nodes[a] = x.node(OF_CONTEXT, a, 1, 0);
        }
        for (int has = 0; has <= 3; has++) {
            for (int a = 0; a < 4; a++) {
                due("context " + a + " of " + has, x.body(0, 0, nodes[a]), a < has ? 1 : BAD);
                due("another instance has none", x.body(1, 0, nodes[a]), BAD);
            }
            due("one more", x.context(0, 0, 0), has < 3 ? has + 1 : FULL);
        }
    }

    private static void fitsBySupers() {
        Counted x = scene();
        for (int c = 0; c < 4; c++) {
            x.cls(2);
            x.instance(c, 1);
        }
        int[] nodes = new int[4];
        for (int a = 0; a < 4; a++) {
            nodes[a] = x.node(OF_SUPER, a, 1, 0);
        }
        for (int has = 0; has <= 3; has++) {
            for (int a = 0; a < 4; a++) {
                due("super " + a + " of " + has, x.body(3, 0, nodes[a]), a < has ? 1 : BAD);
                due("another class has none", x.body(2, 0, nodes[a]), BAD);
            }
            due("one more", x.superOf(3, has), has < 3 ? has + 1 : BAD);
        }
    }

    private static void fitsByVariables() {
        Counted x = scene();
        x.cls(1);
        for (int places = 0; places <= 2; places++) {
            x.instance(0, places);
        }
        int both = x.type(2, 1, 0);
        int[] types = {2, 4, 0, 1, x.type(1, 0, 0), x.type(1, 1, 0), both, x.type(2, 2, 1), x.type(2, 0, 3),
            x.type(1, x.type(2, both, 4), 0)};
        int[] needed = {0, 0, 1, 2, 1, 2, 2, 2, 1, 2};
        for (int n = 0; n < types.length; n++) {
            int at = x.node(AT, 0, types[n], 0);
            for (int places = 0; places <= 2; places++) {
                due("at type " + types[n] + " with places " + places, x.body(places, 0, at),
                    needed[n] <= places ? 1 : BAD);
            }
        }
    }

    private static void fitsAsStandard() {
        Counted x = scene();
        for (int members = 1; members <= 4; members++) {
            x.cls(members);
        }
        for (int has = 0; has <= 3; has++) {
            for (int a = 0; a < 4; a++) {
                for (int m = 0; m < 4; m++) {
                    due("super " + a + " of " + has + " member " + m,
                        x.standard(3, 0, x.node(OF_SUPER, a, m, 0)), a < has && m <= a ? 1 : BAD);
                }
            }
            due("one more", x.superOf(3, has), has < 3 ? has + 1 : BAD);
        }
        for (int m = 0; m < 4; m++) {
            int own = x.node(OWN, m, 0, 0);
            for (int c = 0; c < 4; c++) {
                due("own " + m + " of " + (c + 1), x.standard(c, 0, own), m <= c ? 1 : BAD);
            }
        }
    }

    private static void fitsAsStandardWithin() {
        Counted x = sceneToFit();
        for (int bad : nodesThatDoNotFit(x)) {
            due("itself", x.standard(0, 0, bad), BAD);
            due("on the left", x.standard(0, 0, x.node(PLUS, bad, 0, 0)), BAD);
            due("on the right", x.standard(0, 0, x.node(OVER, 0, bad, 0)), BAD);
            due("asked", x.standard(0, 0, x.node(IF, bad, 0, 0)), BAD);
            due("on the side of b", x.standard(0, 0, x.node(IF, 0, bad, 0)), BAD);
            due("on the side of c", x.standard(0, 0, x.node(IF, 0, 0, bad)), BAD);
            due("neither", x.standard(0, 0, x.node(PLUS, 0, 0, bad)), 1);
        }
    }

    private static void noContextInStandards() {
        Counted x = sceneToFit();
        for (int k = 1; k <= 3; k++) {
            due("the instance has contexts", x.context(0, 0, 0), k);
        }
        for (int a = 0; a < 4; a++) {
            int node = x.node(OF_CONTEXT, a, 0, 0);
            due("context " + a + " in the body", x.body(0, 0, node), a < 3 ? 1 : BAD);
            due("context " + a + " in the standard", x.standard(0, 0, node), BAD);
        }
    }

    private static void noVariableButZero() {
        Counted x = scene();
        x.cls(1);
        x.instance(0, 2);
        int[] types = {0, 1, 2, x.type(1, 0, 0), x.type(1, 1, 0), x.type(2, 0, 0), x.type(2, 0, 1), x.type(2, 1, 0),
            x.type(2, 4, 1), x.type(2, 4, 0), x.type(1, x.type(1, 1, 0), 0)};
        int[] fits = {1, BAD, 1, 1, BAD, 1, BAD, BAD, BAD, 1, BAD};
        for (int n = 0; n < types.length; n++) {
            due("at type " + types[n], x.standard(0, 0, x.node(AT, 0, types[n], 0)), fits[n]);
        }
    }

    private static void variableOfStandards() {
        Counted x = scene();
        x.cls(2);
        for (int c = 0; c < 3; c++) {
            x.instance(0, c);
            x.body(c, 1, x.node(NUMBER, c, 0, 0));
        }
        int pair = x.type(2, 3, 2);
        x.standard(0, 0, x.node(AT, 0, 0, 1));
        int[] types = {2, 3, pair};
        for (int c = 0; c < 3; c++) {
            due("variable 0 with places " + c, x.value(x.dictionary(0, types[c]), 0), c);
        }
        due("there is no other dictionary", x.count(5), 3);
        x.standard(0, 0, x.node(AT, 0, x.type(1, 0, 0), 1));
        int before = x.count(1);
        due("at C1(pair)", x.value(x.dictionary(0, pair), 0), 1);
        dueType("C1(pair)", x, before, 1, pair, NONE);
        due("its dictionary", x.about(1, 1), before);
        due("at C1(C0), without variables of its own", x.value(x.dictionary(0, 2), 0), 1);
        due("that was there", x.about(x.step(0, 0), 1), 3);
    }
}
