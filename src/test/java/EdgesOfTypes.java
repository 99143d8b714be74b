/** Sentences of the document's ==== 1: CONSTRUCTORS, TYPES, PUT IN. */
final class EdgesOfTypes extends Checks {
    private static final int SEVEN = 7;

    static void all(Sentences s) {
        s.in("What it is");
        s.holds("CONSTRUCTORS 0 ..", EdgesOfTypes::eightConstructors);
        s.in("Terms");
        s.holds("7 have 0 to 2 PLACES.", EdgesOfTypes::placesOfConstructors);
        s.holds("TYPES are numbered as they are made,", EdgesOfTypes::numberedAsMade);
        s.holds("80 at most,", EdgesOfTypes::eightyTypes);
        s.holds("the same one once:", EdgesOfTypes::theSameOnce);
        s.holds("the same one once:", EdgesOfTypes::theSameOnceWhereThereIsNoRoom);
        s.holds("0, 1 are VARIABLE 0, 1;", EdgesOfTypes::variables);
        s.holds("others a CONSTRUCTOR with as many ARGUMENTS (TYPES) as it has PLACES.",
            EdgesOfTypes::argumentsByPlaces);
        s.holds("CLOSED: no VARIABLE stands in it.", EdgesOfTypes::closed);
        s.holds("CLOSED: no VARIABLE stands in it.", EdgesOfTypes::closedFarWithin);
        s.holds("Some PUT IN for VARIABLES of a TYPE: each VARIABLE becomes that;",
            EdgesOfTypes::eachVariableBecomesThat);
        s.holds("Some PUT IN for VARIABLES of a TYPE: each VARIABLE becomes that;", EdgesOfTypes::sharedTypesPutIn);
        s.holds("Some PUT IN for VARIABLES of a TYPE: each VARIABLE becomes that;", EdgesOfTypes::manyTypesPutIn);
        s.holds("what comes is made, if it is not there", EdgesOfTypes::whatIsThereIsNotMade);
        s.holds("(of each its ARGUMENTS, in order, ahead of it;", EdgesOfTypes::argumentsAhead);
        s.holds("(of each its ARGUMENTS, in order, ahead of it;", EdgesOfTypes::argumentsAheadUntilNoRoom);
        s.holds("what is made stays).", EdgesOfTypes::staysAfterLacks);
        s.holds("what is made stays).", EdgesOfTypes::staysAfterFull);
        s.holds("what is made stays).", EdgesOfTypes::staysAfterWantOfTypes);
        s.holds("what is made stays).", EdgesOfTypes::staysWithoutDictionaries);
    }

    private static void eightConstructors() {
        Counted x = new Counted();
        for (int n = 0; n < 8; n++) {
            due("type of constructor " + n + " ahead of it", x.type(n, 0, 0), BAD);
            due("constructor " + n, x.constructor(n % 3), n);
            due("count(0)", x.count(0), n + 1);
            due("type of constructor " + n, x.type(n, 0, 0), n + 2);
        }
        for (int places = 0; places <= 2; places++) {
            due("a ninth of " + places + " places", x.constructor(places), FULL);
        }
        due("type of constructor 8", x.type(8, 0, 0), BAD);
        due("count(0)", x.count(0), 8);
    }

    private static void placesOfConstructors() {
        Counted x = new Counted();
        for (int places : new int[] {-1, 3, 4, -2, -3, -4, Integer.MIN_VALUE, Integer.MAX_VALUE}) {
            due("constructor(" + places + ")", x.constructor(places), BAD);
        }
        due("count(0)", x.count(0), 0);
        for (int places = 0; places <= 2; places++) {
            due("constructor(" + places + ")", x.constructor(places), places);
            int type = x.type(places, 1, 0);
            dueType("places " + places, x, type, places, places > 0 ? 1 : NONE, places > 1 ? 0 : NONE);
        }
        due("the same places again", x.constructor(2), 3);
    }

    private static void numberedAsMade() {
        Counted x = new Counted();
        x.constructor(2);
        x.constructor(0);
        x.constructor(1);
        int[][] rows = {{1, NONE, NONE}, {2, 2, NONE}, {0, 3, 2}, {0, 2, 3}, {2, 5, NONE}, {0, 6, 6}};
        for (int n = 0; n < rows.length; n++) {
            due("type " + (n + 2), x.type(rows[n][0], rows[n][1], rows[n][2]), n + 2);
            due("count(1)", x.count(1), n + 3);
        }
        for (int n = 0; n < rows.length; n++) {
            dueType("type " + (n + 2), x, n + 2, rows[n][0], rows[n][1], rows[n][2]);
        }
    }

    /** CONSTRUCTORS with 0, 1, 2 PLACES and so many TYPES, each but the first ones on the one before. */
    private static Counted withTypes(int many) {
        Counted x = scene();
        for (int t = 5; t < many; t++) {
            due("type " + t, x.type(1, t - 1, 0), t);
        }
        due("count(1)", x.count(1), many);
        return x;
    }

    private static void eightyTypes() {
        Counted x = withTypes(79);
        x.constructor(0);
        due("the eightieth", x.type(2, 78, 0), 79);
        due("one more of no place", x.type(3, 0, 0), FULL);
        due("one more of one place", x.type(1, 79, 0), FULL);
        due("one more of two places", x.type(2, 79, 79), FULL);
        due("count(1)", x.count(1), 80);
        dueType("the eightieth", x, 79, 2, 78, 0);
        due("typeOf(80, 0)", x.typeOf(80, 0), BAD);
    }

    private static void theSameOnce() {
        Counted x = scene();
        x.constructor(1);
        due("C0 again", x.type(0, 0, 0), 2);
        due("C1(C0) again", x.type(1, 2, 0), 3);
        due("C2(2, 3)", x.type(2, 2, 3), 5);
        due("C2(2, 3) again", x.type(2, 2, 3), 5);
        due("the other way round it is another", x.type(2, 3, 2), 6);
        due("another first argument", x.type(2, 4, 3), 7);
        due("another second argument", x.type(2, 2, 4), 8);
        due("another constructor of one place", x.type(3, 2, 0), 9);
        due("C1(C0) again", x.type(1, 2, 3), 3);
        due("of a variable", x.type(1, 0, 0), 10);
        due("of the other variable", x.type(1, 1, 0), 11);
        due("of a variable again", x.type(1, 0, 0), 10);
        due("count(1)", x.count(1), 12);
    }

    private static void theSameOnceWhereThereIsNoRoom() {
        Counted x = withTypes(80);
        for (int t = 3; t < 80; t += 4) {
            due("type " + t + " again", x.type(1, t - 1, 0), t);
        }
        due("the last one again", x.type(1, 78, 0), 79);
        due("C0 again", x.type(0, 0, 0), 2);
        due("count(1)", x.count(1), 80);
    }

    private static void variables() {
        Counted x = new Counted();
        due("count(1)", x.count(1), 2);
        dueType("variable 0", x, 0, NONE, NONE, NONE);
        dueType("variable 1", x, 1, NONE, NONE, NONE);
        due("typeOf(2, 0)", x.typeOf(2, 0), BAD);
        Counted y = scene();
        y.cls(2);
        y.instance(0, 0);
        y.instance(0, 1);
        y.instance(0, 2);
        for (int i = 0; i < 3; i++) {
            y.body(i, 1, y.node(NUMBER, i, 0, 0));
        }
        int pair = y.type(2, 3, 2);
        y.body(2, 0, y.node(AT, 0, 0, 1));
        y.dictionary(0, pair);
        due("type 0 is variable 0, the first argument", y.value(0, 0), 1);
        y.body(2, 0, y.node(AT, 0, 1, 1));
        y.dictionary(0, pair);
        due("type 1 is variable 1, the second argument", y.value(0, 0), 0);
    }

    private static void argumentsByPlaces() {
        Counted x = new Counted();
        x.constructor(2);
        x.constructor(1);
        x.constructor(0);
        due("no arguments", x.type(2, BAD, BAD), 2);
        dueType("no arguments", x, 2, 2, NONE, NONE);
        due("one that is there", x.type(1, 2, BAD), 3);
        dueType("one", x, 3, 1, 2, NONE);
        due("one that is not there", x.type(1, 4, 0), BAD);
        due("itself", x.type(1, 4, 4), BAD);
        due("two that are there", x.type(0, 3, 1), 4);
        dueType("two", x, 4, 0, 3, 1);
        due("the first is not there", x.type(0, 5, 0), BAD);
        due("the second is not there", x.type(0, 0, 5), BAD);
        due("the latest for both", x.type(0, 4, 4), 5);
        dueType("the latest for both", x, 5, 0, 4, 4);
    }

    private static void dueClosed(Counted x, String what, int type, int closed) {
        due(what + ": typeOf(" + type + ", 3)", x.typeOf(type, 3), closed);
        due(what + ": dictionary", x.dictionary(0, type), closed == 1 ? LACKS : BAD);
    }

    private static void closed() {
        Counted x = scene();
        x.cls(1);
        dueClosed(x, "variable 0", 0, 0);
        dueClosed(x, "variable 1", 1, 0);
        dueClosed(x, "C0", 2, 1);
        dueClosed(x, "C1(C0)", 3, 1);
        for (int variable = 0; variable <= 1; variable++) {
            dueClosed(x, "C1 of variable " + variable, x.type(1, variable, 0), 0);
            dueClosed(x, "on the left variable " + variable, x.type(2, variable, 3), 0);
            dueClosed(x, "on the right variable " + variable, x.type(2, 3, variable), 0);
            dueClosed(x, "on both sides variable " + variable, x.type(2, variable, variable), 0);
        }
        dueClosed(x, "both variables", x.type(2, 1, 0), 0);
        dueClosed(x, "C2(C0, C1(C0))", x.type(2, 2, 3), 1);
        due("arguments that are not needed do not count", x.type(1, 2, 0), 3);
        dueClosed(x, "C1(C0)", 3, 1);
    }

    private static void closedFarWithin() {
        for (int end = 0; end <= 2; end++) {
            Counted x = scene();
            x.cls(1);
            int far = end;
            for (int n = 0; n < 36; n++) {
                far = x.type(2, 4, x.type(2, far, 3));
                if (n % 7 == 0 || n == 35) {
                    dueClosed(x, "variable " + end + " within", far, end == 2 ? 1 : 0);
                }
            }
        }
    }

    /**
     * CLASS 0 has an INSTANCE for each CONSTRUCTOR; MEMBER 1 is 7 everywhere; MEMBER 0 at C2(4, 3)
     * is what the NODE says that a test gives it.
     */
    private static Counted sceneToPutIn() {
        Counted x = scene();
        x.cls(2);
        for (int c = 0; c < 3; c++) {
            x.instance(0, c);
        }
        x.standard(0, 1, x.node(NUMBER, SEVEN, 0, 0));
        due("C2(4, 3)", x.type(2, 4, 3), 5);
        return x;
    }

    /** What comes of a TYPE with 4 for VARIABLE 0 and 3 for VARIABLE 1. */
    private static int cameOf(Counted x, int type) {
        x.body(2, 0, x.node(AT, 0, type, 1));
        int d = x.dictionary(0, 5);
        due("value", x.value(d, 0), SEVEN);
        return x.about(x.step(0, 0), 1);
    }

    private static void eachVariableBecomesThat() {
        Counted x = sceneToPutIn();
        due("variable 0", cameOf(x, 0), 4);
        due("variable 1", cameOf(x, 1), 3);
        due("a closed one", cameOf(x, 3), 3);
        due("C1(variable 1)", cameOf(x, x.type(1, 1, 0)), 4);
        due("C2(0, 1)", cameOf(x, x.type(2, 0, 1)), 5);
        int crossed = cameOf(x, x.type(2, 1, 0));
        dueType("C2(1, 0)", x, crossed, 2, 3, 4);
        int twice = cameOf(x, x.type(2, 0, 0));
        dueType("C2(0, 0)", x, twice, 2, 4, 4);
        int withOther = cameOf(x, x.type(2, 1, 2));
        dueType("C2(1, C0)", x, withOther, 2, 3, 2);
        int left = cameOf(x, x.type(2, x.type(2, 0, 1), x.type(1, 0, 0)));
        dueType("C2(C2(0, 1), C1(0))", x, left, 2, 5, x.type(1, 4, 0));
        due("what came is closed", x.typeOf(left, 3), 1);
    }

    private static void whatIsThereIsNotMade() {
        Counted x = sceneToPutIn();
        int open = x.type(2, x.type(1, 1, 0), x.type(1, 0, 0));
        due("open", open, 8);
        due("of its arguments one is there", cameOf(x, open), 10);
        dueType("the other argument", x, 9, 1, 4, NONE);
        dueType("what comes", x, 10, 2, 4, 9);
        due("count(1)", x.count(1), 11);
        due("all of it is there", cameOf(x, open), 10);
        due("count(1)", x.count(1), 11);
        due("a closed one is there", cameOf(x, 10), 10);
        due("a variable's is there", cameOf(x, 1), 3);
        due("count(1)", x.count(1), 11);
    }

    private static void argumentsAhead() {
        Counted x = sceneToPutIn();
        int first = x.type(2, 1, 1);
        int second = x.type(2, 0, x.type(1, 0, 0));
        int open = x.type(2, second, x.type(2, first, second));
        int n = x.count(1);
        due("what comes is the last", cameOf(x, open), n + 4);
        dueType("the first argument's second argument", x, n, 1, 4, NONE);
        dueType("the first argument", x, n + 1, 2, 4, n);
        dueType("the second argument's first argument", x, n + 2, 2, 3, 3);
        dueType("the second argument", x, n + 3, 2, n + 2, n + 1);
        dueType("it", x, n + 4, 2, n + 1, n + 3);
        due("count(1)", x.count(1), n + 5);
    }

    private static void argumentsAheadUntilNoRoom() {
        for (int room = 0; room <= 3; room++) {
            Counted x = sceneToPutIn();
            int open = x.type(2, x.type(1, 0, 0), x.type(2, 1, 1));
            int at = x.node(AT, 0, open, 1);
            for (int t = x.count(1); t < 80 - room; t++) {
                due("filling", x.type(2, t - 1, 2), t);
            }
            x.body(2, 0, at);
            x.dictionary(0, 5);
            String what = "room for " + room + " of 3";
            due(what, x.value(0, 0), room == 3 ? SEVEN : 0);
            due(what + ": failed(0)", x.failed(0), room == 3 ? 0 : NO_ROOM);
            due(what + ": count(1)", x.count(1), 80);
            if (room > 0) {
                dueType(what + ": first", x, 80 - room, 1, 4, NONE);
            }
            if (room > 1) {
                dueType(what + ": second", x, 81 - room, 2, 3, 3);
            }
            if (room > 2) {
                dueType(what + ": third", x, 79, 2, 77, 78);
            }
        }
    }

    private static void staysAfterLacks() {
        Counted x = sceneToPutIn();
        x.cls(1);
        int open = x.type(1, x.type(1, 0, 0), 0);
        x.body(2, 0, x.node(AT, 1, open, 0));
        x.dictionary(0, 5);
        int before = x.count(1);
        due("value", x.value(0, 0), 0);
        due("failed(0)", x.failed(0), LACKING);
        due("count(1)", x.count(1), before + 2);
        dueType("the argument", x, before, 1, 4, NONE);
        dueType("what comes", x, before + 1, 1, before, NONE);
        due("lack(1)", x.lack(1), before + 1);
        due("again", x.value(0, 0), 0);
        due("nothing more is made", x.count(1), before + 2);
        due("it is found", x.type(1, 4, 0), before);
    }

    private static void staysAfterFull() {
        Counted x = wideScene();
        int open = x.type(1, x.type(1, x.type(1, 0, 0), 0), 0);
        x.body(1, 0, x.node(AT, 6, open, 0));
        fillDictionaries(x, 0, 60);
        int before = x.count(1);
        due("value at 11", x.value(9, 0), 0);
        due("no room for the dictionary", x.failed(0), NO_ROOM);
        due("count(1)", x.count(1), before + 2);
        dueType("the argument", x, before, 1, 11, NONE);
        dueType("what comes", x, before + 1, 1, before, NONE);
    }

    private static void staysAfterWantOfTypes() {
        Counted x = sceneToPutIn();
        int open = x.type(1, x.type(2, 0, 0), 0);
        x.body(2, 0, x.node(AT, 0, open, 1));
        for (int t = x.count(1); t < 79; t++) {
            due("filling", x.type(1, t - 1, 0), t);
        }
        x.dictionary(0, 5);
        for (int again = 0; again < 2; again++) {
            due("room for one of two", x.value(0, 0), 0);
            due("failed(0)", x.failed(0), NO_ROOM);
            due("count(1)", x.count(1), 80);
            dueType("the one", x, 79, 2, 4, 4);
        }
        due("it is found", x.type(2, 4, 4), 79);
    }

    private static void staysWithoutDictionaries() {
        Counted x = sceneToPutIn();
        int came = cameOf(x, x.type(2, 1, 0));
        int before = x.count(1);
        x.cls(1);
        due("count(5)", x.count(5), 0);
        due("count(1)", x.count(1), before);
        dueType("what came", x, came, 2, 3, 4);
        due("it is found", x.type(2, 3, 4), came);
    }

    /** As a tree this TYPE has some 2^35 leaves. */
    private static void sharedTypesPutIn() {
        Counted x = scene();
        x.cls(1);
        x.instance(0, 1);
        x.instance(0, 2);
        int shared = x.type(2, 0, 0);
        for (int n = 0; n < 34; n++) {
            shared = x.type(2, shared, shared);
        }
        x.body(1, 0, x.node(NUMBER, 6, 0, 0));
        x.body(0, 0, x.node(AT, 0, shared, 0));
        due("dictionary(0, 3)", x.dictionary(0, 3), 0);
        due("count(1)", x.count(1), 40);
        due("value(0, 0)", x.value(0, 0), 6);
        due("count(1)", x.count(1), 75);
    }

    /** Of two chains with another VARIABLE each the same one comes, and all of it is there. */
    private static void manyTypesPutIn() {
        Counted x = new Counted();
        x.constructor(0);
        x.constructor(1);
        x.constructor(2);
        int[] ends = {0, 1, x.type(0, 0, 0)};
        for (int n = 0; n < 24; n++) {
            for (int k = 0; k < ends.length; k++) {
                ends[k] = x.type(1, ends[k], 0);
            }
        }
        int unit = 2;
        int pair = x.type(2, unit, unit);
        x.cls(1);
        x.cls(1);
        x.instance(0, 2);
        x.instance(1, 2);
        x.body(0, 0, x.node(AT, 1, x.type(2, ends[0], ends[1]), 0));
        x.body(1, 0, x.node(NUMBER, 9, 0, 0));
        due("dictionary(0, pair)", x.dictionary(0, pair), 0);
        due("count(1)", x.count(1), 77);
        due("value(0, 0)", x.value(0, 0), 9);
        due("one type is made", x.count(1), 78);
        due("typeOf(77, 1)", x.typeOf(77, 1), ends[2]);
        due("typeOf(77, 2)", x.typeOf(77, 2), ends[2]);
        due("about(1, 1)", x.about(1, 1), 77);
    }
}
