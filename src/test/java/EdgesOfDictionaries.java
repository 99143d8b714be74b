/** Sentences of the document's ==== 3: how DICTIONARIES are made. */
final class EdgesOfDictionaries extends Checks {
    static void all(Sentences s) {
        s.in("What it is");
        s.holds("dictionaries that are made once however they are found", EdgesOfDictionaries::onceHoweverFound);
        s.in("Terms");
        s.holds("==== 3 DICTIONARIES, 60 at most,", EdgesOfDictionaries::sixty);
        s.holds("==== 3 DICTIONARIES, 60 at most,", EdgesOfDictionaries::sixtyInOneMaking);
        s.holds("are of a CLASS and a CLOSED TYPE,", EdgesOfDictionaries::ofClassAndClosedType);
        s.holds("numbered as they are made, each once.", EdgesOfDictionaries::numberedAndOnce);
        s.holds("TO MAKE one: it is there;", EdgesOfDictionaries::itIsThere);
        s.holds("or, with the INSTANCE of the CLASS and of the TYPE's CONSTRUCTOR (none: LACKS),",
            EdgesOfDictionaries::instanceOfBoth);
        s.holds("it gets a number, then its PARTS are made, one after the other:",
            EdgesOfDictionaries::numberAheadOfParts);
        s.holds("it gets a number, then its PARTS are made, one after the other:",
            EdgesOfDictionaries::makingOfManyParts);
        s.holds("it gets a number, then its PARTS are made, one after the other:",
            EdgesOfDictionaries::makingOfMostParts);
        s.holds("for each CONTEXT its CLASS at the ARGUMENT in that PLACE,", EdgesOfDictionaries::contextsFirst);
        s.holds("then for each SUPER that at the same TYPE.", EdgesOfDictionaries::supersThen);
        s.holds("If one LACKS,", EdgesOfDictionaries::oneLacks);
        s.holds("or there is no room (FULL),", EdgesOfDictionaries::noRoom);
        s.holds("or there is no room (FULL),", EdgesOfDictionaries::lacksOrNoRoom);
        s.holds("all that was begun by this making is gone.", EdgesOfDictionaries::allBegunIsGone);
        s.holds("all that was begun by this making is gone.", EdgesOfDictionaries::whatWasThereStays);
        s.holds("all that was begun by this making is gone.", EdgesOfDictionaries::goneInAt);
    }

    /** CLASS 1 over CLASS 0; INSTANCES of both for C0 and C1, those of C1 with their CLASS as CONTEXT. */
    private static Counted sceneOfTwo() {
        Counted x = scene();
        x.cls(1);
        x.cls(1);
        x.superOf(1, 0);
        for (int c = 0; c < 2; c++) {
            x.instance(c, 0);
            x.instance(c, 1);
            x.context(2 * c + 1, c, 0);
        }
        return x;
    }

    private static void onceHoweverFound() {
        Counted x = sceneOfTwo();
        x.body(3, 0, x.node(AT, 0, x.type(1, 0, 0), 0));
        x.standard(0, 0, x.node(NUMBER, 3, 0, 0));
        due("by dictionary()", x.dictionary(1, 3), 0);
        due("its context", x.part(0, 0), 1);
        due("that one's super", x.part(1, 0), 2);
        due("its super", x.part(0, 1), 3);
        due("that one's context is the same", x.part(3, 0), 2);
        due("count(5)", x.count(5), 4);
        due("by dictionary() again", x.dictionary(0, 2), 2);
        due("by AT", x.value(0, 0), 3);
        dueSteps("the super", x, 3, 0, 0, 0);
        due("count(5)", x.count(5), 4);
    }

    private static void sixty() {
        Counted x = wideScene();
        for (int d = 0; d < 60; d++) {
            due("dictionary " + d + " ahead of it", x.about(d, 0), BAD);
            due("dictionary " + d, x.dictionary(d / 10, 2 + d % 10), d);
            due("count(5)", x.count(5), d + 1);
        }
        due("one more", x.dictionary(6, 2), FULL);
        due("one more", x.dictionary(6, 11), FULL);
        due("about(60, 0)", x.about(60, 0), BAD);
        due("about(59, 1)", x.about(59, 1), 11);
        due("count(5)", x.count(5), 60);
    }

    private static void sixtyInOneMaking() {
        Counted x = chain(60, 5);
        due("60 in a chain", x.count(5), 60);
        due("about(0, 4)", x.about(0, 4), 60);
        due("one more above them", x.dictionary(0, x.type(1, 61, 0)), FULL);
        due("count(5)", x.count(5), 60);
        Counted y = chain(61, 5);
        due("61 in a chain", y.count(5), 0);
        due("61 in a chain", y.dictionary(0, 62), FULL);
        due("count(5)", y.count(5), 0);
        due("the 60 of them that have room", y.dictionary(0, 61), 0);
        due("count(5)", y.count(5), 60);
    }

    private static void ofClassAndClosedType() {
        Counted x = scene();
        x.cls(1);
        x.instance(0, 0);
        x.instance(0, 1);
        x.instance(0, 2);
        int[] open = {0, 1, x.type(1, 0, 0), x.type(1, 1, 0), x.type(2, 2, 0), x.type(2, 1, 2)};
        for (int type : open) {
            due("at type " + type, x.dictionary(0, type), BAD);
        }
        due("count(5)", x.count(5), 0);
        due("at C0", x.dictionary(0, 2), 0);
        due("at C1(C0)", x.dictionary(0, 3), 1);
        due("at C2(C0, C0)", x.dictionary(0, x.type(2, 2, 2)), 2);
    }

    private static void numberedAndOnce() {
        Counted x = scene();
        for (int c = 0; c < 3; c++) {
            x.cls(1);
            x.instance(c, 0);
            x.instance(c, 1);
        }
        int[][] asked = {{2, 4}, {0, 2}, {2, 2}, {0, 4}, {1, 3}};
        for (int again = 0; again < 2; again++) {
            for (int d = 0; d < asked.length; d++) {
                due("dictionary " + d, x.dictionary(asked[d][0], asked[d][1]), d);
                due("about(" + d + ", 0)", x.about(d, 0), asked[d][0]);
                due("about(" + d + ", 1)", x.about(d, 1), asked[d][1]);
            }
            due("count(5)", x.count(5), 5);
        }
    }

    private static void itIsThere() {
        Counted x = wideScene();
        x.superOf(6, 0);
        due("dictionary(6, 2)", x.dictionary(6, 2), 0);
        for (int n = 0; n < 50; n++) {
            due("filling", x.dictionary(1 + n / 10, 2 + n % 10), 2 + n);
        }
        for (int n = 0; n < 8; n++) {
            due("filling", x.dictionary(0, 3 + n), 52 + n);
        }
        due("one that is not there", x.dictionary(0, 11), FULL);
        due("there is no room, but it is there", x.dictionary(6, 2), 0);
        due("a part of it too", x.dictionary(0, 2), 1);
        due("the sixtieth too", x.dictionary(0, 10), 59);
        due("count(5)", x.count(5), 60);
        due("part(0, 0)", x.part(0, 0), 1);
        due("no lack", x.lack(0), NONE);
    }

    private static void instanceOfBoth() {
        Counted x = scene();
        x.cls(1);
        x.cls(1);
        x.cls(1);
        due("no instance at all", x.dictionary(0, 2), LACKS);
        x.instance(1, 0);
        due("another class has one", x.dictionary(0, 2), LACKS);
        x.instance(0, 1);
        due("it has one for another constructor", x.dictionary(0, 2), LACKS);
        due("lack(0)", x.lack(0), 0);
        due("lack(1)", x.lack(1), 2);
        x.instance(0, 0);
        due("it has one for both", x.dictionary(0, 2), 0);
        due("about(0, 2)", x.about(0, 2), 2);
        due("the constructor alone counts", x.dictionary(0, 4), 1);
        due("about(1, 2)", x.about(1, 2), 1);
        due("the other class", x.dictionary(1, 2), 2);
        due("about(2, 2)", x.about(2, 2), 0);
        due("class 2 has none", x.dictionary(2, 2), LACKS);
        due("lack(0)", x.lack(0), 2);
    }

    private static void numberAheadOfParts() {
        Counted x = sceneOfTwo();
        due("dictionary(1, 4)", x.dictionary(1, 4), 0);
        int[][] rows = {{1, 4}, {1, 3}, {1, 2}, {0, 2}, {0, 3}, {0, 4}};
        due("count(5)", x.count(5), rows.length);
        for (int d = 0; d < rows.length; d++) {
            due("about(" + d + ", 0)", x.about(d, 0), rows[d][0]);
            due("about(" + d + ", 1)", x.about(d, 1), rows[d][1]);
        }
        int[][] parts = {{1, 5}, {2, 4}, {3}, {}, {3}, {4}};
        for (int d = 0; d < parts.length; d++) {
            due("about(" + d + ", 3)", x.about(d, 3), parts[d].length);
            for (int k = 0; k < parts[d].length; k++) {
                due("part(" + d + ", " + k + ")", x.part(d, k), parts[d][k]);
            }
        }
    }

    /** CLASS 3 at C2(C1(C0), C0), with as many CONTEXTS and SUPERS as there can be. */
    private static Counted sceneOfSixParts() {
        Counted x = scene();
        for (int c = 0; c < 4; c++) {
            x.cls(1);
            for (int h = 0; h < 3; h++) {
                x.instance(c, h);
            }
        }
        due("C2(3, 2)", x.type(2, 3, 2), 5);
        x.context(11, 2, 1);
        x.context(11, 0, 0);
        x.context(11, 2, 0);
        x.superOf(3, 1);
        x.superOf(3, 0);
        x.superOf(3, 2);
        due("dictionary(3, 5)", x.dictionary(3, 5), 0);
        return x;
    }

    private static void dueParts(Counted x, int from, int[][] rows) {
        for (int k = 0; k < rows.length; k++) {
            int part = x.part(0, from + k);
            due("part(0, " + (from + k) + ")", part, from + k + 1);
            due("its class", x.about(part, 0), rows[k][0]);
            due("its type", x.about(part, 1), rows[k][1]);
        }
    }

    private static void contextsFirst() {
        Counted x = sceneOfSixParts();
        dueParts(x, 0, new int[][] {{2, 2}, {0, 3}, {2, 3}});
        Counted y = scene();
        y.cls(1);
        y.instance(0, 0);
        y.instance(0, 2);
        y.context(1, 0, 1);
        y.context(1, 0, 0);
        y.context(1, 0, 1);
        due("dictionary", y.dictionary(0, y.type(2, 2, 2)), 0);
        due("each has its part", y.about(0, 3), 3);
        for (int k = 0; k < 3; k++) {
            due("the same for all", y.part(0, k), 1);
        }
        due("made once", y.count(5), 2);
    }

    private static void supersThen() {
        Counted x = sceneOfSixParts();
        dueParts(x, 3, new int[][] {{1, 5}, {0, 5}, {2, 5}});
        due("about(0, 3)", x.about(0, 3), 6);
        due("part(0, 6)", x.part(0, 6), BAD);
        due("count(5)", x.count(5), 7);
    }

    /** CLASS 3 at C1(C0) with two CONTEXTS and two SUPERS; the one numbered so has no INSTANCE. */
    private static Counted sceneThatLacks(int lacking) {
        Counted x = scene();
        for (int c = 0; c < 6; c++) {
            x.cls(1);
        }
        int[][] instances = {{4, 0}, {5, 0}, {0, 1}, {1, 1}};
        x.instance(3, 1);
        for (int n = 0; n < 4; n++) {
            if (n != lacking) {
                x.instance(instances[n][0], instances[n][1]);
            }
        }
        x.context(0, 4, 0);
        x.context(0, 5, 0);
        x.superOf(3, 0);
        x.superOf(3, 1);
        return x;
    }

    private static void oneLacks() {
        int[] classes = {4, 5, 0, 1};
        int[] types = {2, 2, 3, 3};
        for (int lacking = 0; lacking < 4; lacking++) {
            Counted x = sceneThatLacks(lacking);
            due("part " + lacking + " lacks", x.dictionary(3, 3), LACKS);
            due("lack(0)", x.lack(0), classes[lacking]);
            due("lack(1)", x.lack(1), types[lacking]);
            due("count(5)", x.count(5), 0);
        }
        Counted x = sceneThatLacks(NONE);
        due("none lacks", x.dictionary(3, 3), 0);
        due("count(5)", x.count(5), 5);
        due("lack(0)", x.lack(0), NONE);
    }

    /** CLASS 6 at TYPE 11 needs three DICTIONARIES: the latter two are not among the first 58. */
    private static Counted sceneOfThreeNeeded() {
        Counted x = wideScene();
        x.superOf(6, 5);
        x.context(13, 5, 0);
        return x;
    }

    private static void noRoom() {
        for (int there = 56; there <= 60; there++) {
            Counted x = sceneOfThreeNeeded();
            fillDictionaries(x, 0, there);
            boolean fits = there <= 57;
            due(there + " there", x.dictionary(6, 11), fits ? there : FULL);
            due("count(5)", x.count(5), fits ? there + 3 : there);
            due("about(" + there + ", 0)", x.about(there, 0), fits ? 6 : BAD);
            due("no lack", x.lack(0), NONE);
        }
    }

    private static void lacksOrNoRoom() {
        Counted x = wideScene();
        x.cls(1);
        x.superOf(6, 5);
        x.context(13, 7, 0);
        fillDictionaries(x, 0, 59);
        due("its first part lacks, for its second there is no room", x.dictionary(6, 11), LACKS);
        due("count(5)", x.count(5), 59);
        due("lack(0)", x.lack(0), 7);
        due("lack(1)", x.lack(1), 10);
        due("the sixtieth", x.dictionary(5, 11), 59);
        due("no room for itself, nothing of its parts is looked at", x.dictionary(6, 10), FULL);
        due("lack(1)", x.lack(1), 10);
        due("what lacks itself does not look for room", x.dictionary(7, 9), LACKS);
        due("lack(1)", x.lack(1), 9);
    }

    private static void allBegunIsGone() {
        Counted x = scene();
        for (int c = 0; c < 3; c++) {
            x.cls(1);
            x.instance(c, 0);
        }
        x.instance(0, 1);
        x.instance(2, 1);
        x.context(3, 0, 0);
        x.context(4, 2, 0);
        x.superOf(2, 0);
        x.superOf(2, 1);
        due("the last part of the first part lacks", x.dictionary(2, 4), LACKS);
        due("lack(0)", x.lack(0), 1);
        due("lack(1)", x.lack(1), 3);
        due("count(5)", x.count(5), 0);
        for (int d = 0; d < 6; d++) {
            due("about(" + d + ", 0)", x.about(d, 0), BAD);
            due("part(" + d + ", 0)", x.part(d, 0), BAD);
            due("begun(" + d + ", 0)", x.begun(d, 0), BAD);
        }
        due("what was made ahead of it is gone too", x.dictionary(0, 2), 0);
        due("again", x.dictionary(2, 4), LACKS);
        due("count(5)", x.count(5), 1);
    }

    private static void whatWasThereStays() {
        Counted x = sceneThatLacks(3);
        x.standard(4, 0, x.node(NUMBER, 6, 0, 0));
        due("a part of it", x.dictionary(4, 2), 0);
        due("worked", x.value(0, 0), 6);
        due("LACKS", x.dictionary(3, 3), LACKS);
        due("count(5)", x.count(5), 1);
        due("about(0, 0)", x.about(0, 0), 4);
        due("begun(0, 0)", x.begun(0, 0), 1);
        due("it stays worked", x.value(0, 0), 6);
        dueSteps("it stays worked", x);
        due("the next number is given again", x.dictionary(5, 2), 1);
        due("begun(1, 0)", x.begun(1, 0), 0);
    }

    private static void goneInAt() {
        for (int there = 57; there <= 59; there++) {
            Counted x = sceneOfThreeNeeded();
            x.body(0, 0, x.node(AT, 6, 11, 0));
            x.standard(6, 0, x.node(NUMBER, 8, 0, 0));
            fillDictionaries(x, 0, there);
            boolean fits = there <= 57;
            due(there + " there", x.value(0, 0), fits ? 8 : 0);
            due("failed(0)", x.failed(0), fits ? 0 : NO_ROOM);
            due("count(5)", x.count(5), fits ? 60 : there);
        }
        Counted y = sceneThatLacks(3);
        y.body(1, 0, y.node(AT, 3, 3, 0));
        due("dictionary(4, 2)", y.dictionary(4, 2), 0);
        due("a part lacks", y.value(0, 0), 0);
        dueFault("a part lacks", y, LACKING, 0, 0);
        due("lack(0)", y.lack(0), 1);
        due("count(5)", y.count(5), 1);
    }

    /** Each of the 8 CLASSES, at each of 7 TYPES: 3 CONTEXTS but at the last, 3 SUPERS where it can. */
    private static Counted sceneOfManyParts() {
        Counted x = wideScene();
        x.cls(1);
        x.instance(7, 0);
        x.instance(7, 1);
        for (int c = 0; c < 8; c++) {
            for (int k = 1; k <= Math.min(c, 3); k++) {
                due("super " + k + " of " + c, x.superOf(c, c - k), k);
            }
            for (int k = 1; k <= 3; k++) {
                due("context " + k + " of " + c, x.context(2 * c + 1, 8 - k, 0), k);
            }
        }
        due("dictionary(7, 8)", x.dictionary(7, 8), 0);
        due("count(5)", x.count(5), 56);
        return x;
    }

    /** An object has calls enough for a look at some of the DICTIONARIES, so there is one for every 14. */
    private static void makingOfManyParts() {
        for (int from = 0; from < 56; from += 14) {
            Counted x = sceneOfManyParts();
            due("about(0, 4)", x.about(0, 4), 56);
            for (int d = from; d < from + 14; d++) {
                dueManyParts(x, d);
            }
            due("nothing was made twice", x.count(5), 56);
        }
        due("no parts", wideScene().dictionary(3, 4), 0);
        Counted y = wideScene();
        y.dictionary(1, 4);
        due("no parts", y.count(5), 1);
    }

    private static void dueManyParts(Counted x, int d) {
        int c = x.about(d, 0);
        int t = x.about(d, 1);
        int contexts = t == 2 ? 0 : 3;
        due("about(" + d + ", 2)", x.about(d, 2), 2 * c + (t == 2 ? 0 : 1));
        due("about(" + d + ", 3)", x.about(d, 3), contexts + Math.min(c, 3));
        for (int k = 0; k < contexts; k++) {
            due("part(" + d + ", " + k + ")", x.part(d, k), x.dictionary(7 - k, t - 1));
        }
        for (int k = 0; k < Math.min(c, 3); k++) {
            due("part(" + d + ", " + (contexts + k) + ")", x.part(d, contexts + k), x.dictionary(c - 1 - k, t));
        }
    }

    /**
     * 60 DICTIONARIES in one making, with more PARTS than any other 60 have: CLASS 0 alone at C0, all
     * eight at each of the seven TYPES above it, and CLASSES 2, 1, 0 at the eighth.
     */
    private static void makingOfMostParts() {
        Counted x = sceneOfMostParts();
        due("dictionary(2, 10)", x.dictionary(2, 10), 0);
        due("count(5)", x.count(5), 60);
        due("about(0, 4)", x.about(0, 4), 60);
        int parts = 0;
        for (int d = 0; d < 60; d++) {
            int c = x.about(d, 0);
            int t = x.about(d, 1);
            int many = x.about(d, 3);
            parts += many;
            if (t > 2) {
                int last = c > 0 ? x.dictionary(c - Math.min(c, 3), t) : x.dictionary(t > 3 ? 5 : 0, t - 1);
                due("the last part of " + d, x.part(d, many - 1), last);
            }
        }
        due("parts in all", parts, 306);
        due("nothing was made twice", x.count(5), 60);
    }

    private static Counted sceneOfMostParts() {
        Counted x = new Counted();
        x.constructor(0);
        x.constructor(1);
        x.constructor(1);
        for (int c = 0; c < 8; c++) {
            x.cls(1);
            for (int k = 1; k <= Math.min(c, 3); k++) {
                due("super", x.superOf(c, c - k), k);
            }
        }
        for (int n = 0; n < 16; n++) {
            int h = 1 + n % 2;
            due("instance", x.instance(n / 2, h), n);
            for (int k = 1; k <= 3; k++) {
                due("context", x.context(n, h == 1 ? 0 : 8 - k, 0), k);
            }
        }
        x.instance(0, 0);
        x.type(0, 0, 0);
        for (int t = 3; t < 11; t++) {
            x.type(t == 3 ? 1 : 2, t - 1, 0);
        }
        return x;
    }
}
