/** Sentences of the document's ==== 4: how MEMBERS are worked, and the FAULTS. */
final class EdgesOfValues extends Checks {
    private static final long MOST = Long.MAX_VALUE, LEAST = Long.MIN_VALUE;

    static void all(Sentences s) {
        s.in("What it is");
        s.holds("values that are worked when they are needed, and then once", EdgesOfValues::whenNeededAndOnce);
        s.holds("what is missing, or needs itself, told by its dictionary and member",
            EdgesOfValues::toldByDictionaryAndMember);
        s.holds("An object is used for at most 512 calls after it has been made", EdgesOfValues::allCalls);
        s.in("Terms");
        s.holds("==== 4 VALUES are longs that wrap;", EdgesOfValues::wrap);
        s.holds("OVER is cut toward 0.", EdgesOfValues::cutTowardZero);
        s.holds("TO WORK a MEMBER of a DICTIONARY: it was worked: that VALUE.", EdgesOfValues::wasWorked);
        s.holds("TO WORK a MEMBER of a DICTIONARY: it was worked: that VALUE.", EdgesOfValues::wasWorkedIsNeverDeep);
        s.holds("It is being worked: RING.", EdgesOfValues::rings);
        s.holds("It is being worked: RING.", EdgesOfValues::ringOfForty);
        s.holds("40 are being worked: DEEP.", EdgesOfValues::fortyAtWork);
        s.holds("40 are being worked: DEEP.", EdgesOfValues::deepGoesAheadOfMissing);
        s.holds("40 are being worked: DEEP.", EdgesOfValues::highNodesAndDeepMembers);
        s.holds("What is worked to its end is a STEP and stays worked;", EdgesOfValues::allMembersOfHighNodes);
        s.holds("Else its INSTANCE's BODY, or its CLASS's STANDARD, or MISSING.", EdgesOfValues::bodyOrStandard);
        s.holds("NODES from the left,", EdgesOfValues::fromTheLeft);
        s.holds("NODES from the left,", EdgesOfValues::firstFaultFromTheLeft);
        s.holds("of an IF just the side that counts;", EdgesOfValues::sideThatCounts);
        s.holds("MEMBERS in them are worked then;", EdgesOfValues::membersWorkedThen);
        s.holds("AT: the TYPE with the INSTANCE's VARIABLES (the TYPE's ARGUMENTS) PUT IN,",
            EdgesOfValues::argumentsPutIn);
        s.holds("the DICTIONARY made, if it is not there", EdgesOfValues::atMakes);
        s.holds("(LACKS, FULL, also for want of TYPES);", EdgesOfValues::atLacks);
        s.holds("(LACKS, FULL, also for want of TYPES);", EdgesOfValues::atFull);
        s.holds("(LACKS, FULL, also for want of TYPES);", EdgesOfValues::atWantsTypes);
        s.holds("OVER by 0 is ZERO.", EdgesOfValues::overByZero);
        s.holds("What is worked to its end is a STEP and stays worked;", EdgesOfValues::staysWorked);
        s.holds("a FAULT ends all that is being worked,", EdgesOfValues::faultEndsAll);
        s.holds("it is told with the DICTIONARY and the MEMBER in which it was found",
            EdgesOfValues::toldWhereFound);
        s.holds("it is told with the DICTIONARY and the MEMBER in which it was found",
            EdgesOfValues::toldWhereFoundBelow);
        s.holds("(of RING, DEEP the one that would be worked),", EdgesOfValues::toldWhatWouldBeWorked);
        s.holds("and nothing of those stays.", EdgesOfValues::nothingOfThoseStays);
        s.holds("FAULTS: 1 MISSING, 2 RING, 3 ZERO, 4 LACKS, 5 FULL, 6 DEEP.", EdgesOfValues::faultNumbers);
    }

    private static void whenNeededAndOnce() {
        Counted x = scene();
        x.cls(3);
        x.instance(0, 0);
        int one = x.node(OWN, 1, 0, 0);
        x.body(0, 0, x.node(PLUS, x.node(TIMES, one, one, 0), one, 0));
        x.body(0, 1, x.node(NUMBER, 3, 0, 0));
        x.body(0, 2, x.node(NUMBER, 4, 0, 0));
        x.dictionary(0, 2);
        for (int m = 0; m < 3; m++) {
            due("a dictionary alone works nothing", x.begun(0, m), 0);
        }
        due("value(0, 0)", x.value(0, 0), 12);
        due("needed three times, worked once", x.begun(0, 1), 1);
        due("not needed", x.begun(0, 2), 0);
        dueSteps("each once", x, 0, 1, 0, 0);
    }

    private static void toldByDictionaryAndMember() {
        Counted x = scene();
        x.cls(2);
        x.instance(0, 0);
        x.instance(0, 1);
        x.context(1, 0, 0);
        x.body(1, 0, x.node(OF_CONTEXT, 0, 1, 0));
        x.body(1, 1, x.node(OF_CONTEXT, 0, 0, 0));
        x.body(0, 0, x.node(OWN, 0, 0, 0));
        x.dictionary(0, 4);
        due("value(1, 0)", x.value(1, 0), 0);
        dueFault("missing in the part", x, MISSING, 2, 1);
        due("value(0, 0)", x.value(0, 0), 0);
        dueFault("needs itself in the part's part", x, RING, 2, 0);
    }

    private static void allCalls() {
        Counted x = scene();
        x.cls(2);
        x.instance(0, 0);
        x.body(0, 0, x.node(OWN, 0, 0, 0));
        x.body(0, 1, x.node(NUMBER, 8, 0, 0));
        x.dictionary(0, 2);
        int times = 0;
        while (x.calls() < Counted.MOST_CALLS - 3) {
            x.value(0, 0);
            times++;
        }
        due("the 510th call", x.begun(0, 0), times);
        due("the 511th call", x.value(0, 1), 8);
        due("the 512th call", x.count(6), 1);
        due("calls", x.calls(), 512);
        Counted y = scene();
        y.cls(1);
        y.instance(0, 0);
        y.node(NUMBER, 1, 0, 0);
        while (y.calls() < Counted.MOST_CALLS - 3) {
            y.body(0, 0, 0);
        }
        due("the 510th call", y.body(0, 0, NONE), 1);
        due("the 511th call", y.dictionary(0, 2), 0);
        due("the 512th call", y.value(0, 0), 0);
    }

    private static long worked(int kind, long left, long right) {
        Counted x = scene();
        x.cls(1);
        x.instance(0, 0);
        int first = longNode(x, left);
        int second = longNode(x, right);
        x.body(0, 0, x.node(kind, first, second, 0));
        x.dictionary(0, 2);
        long value = x.value(0, 0);
        due("no fault", x.failed(0), 0);
        return value;
    }

    private static void wrap() {
        due("most", worked(PLUS, MOST, 0), MOST);
        due("least", worked(PLUS, LEAST, 0), LEAST);
        due("most + 1", worked(PLUS, MOST, 1), LEAST);
        due("least + -1", worked(PLUS, LEAST, -1), MOST);
        due("most + most", worked(PLUS, MOST, MOST), -2);
        due("least + least", worked(PLUS, LEAST, LEAST), 0);
        due("least - 1", worked(LESS, LEAST, 1), MOST);
        due("most - -1", worked(LESS, MOST, -1), LEAST);
        due("0 - least", worked(LESS, 0, LEAST), LEAST);
        due("most * 2", worked(TIMES, MOST, 2), -2);
        due("least * -1", worked(TIMES, LEAST, -1), LEAST);
        due("2^32 * 2^32", worked(TIMES, 1L << 32, 1L << 32), 0);
        due("2^32 * 2^31", worked(TIMES, 1L << 32, 1L << 31), LEAST);
        due("more than an int", worked(TIMES, Integer.MAX_VALUE, Integer.MAX_VALUE), 4611686014132420609L);
        due("more than an int", worked(PLUS, Integer.MAX_VALUE, 1), 2147483648L);
        due("less than an int", worked(LESS, Integer.MIN_VALUE, 1), -2147483649L);
    }

    private static void cutTowardZero() {
        due("7 / 2", worked(OVER, 7, 2), 3);
        due("-7 / 2", worked(OVER, -7, 2), -3);
        due("7 / -2", worked(OVER, 7, -2), -3);
        due("-7 / -2", worked(OVER, -7, -2), 3);
        due("1 / 2", worked(OVER, 1, 2), 0);
        due("-1 / 2", worked(OVER, -1, 2), 0);
        due("6 / -3", worked(OVER, 6, -3), -2);
        due("0 / -3", worked(OVER, 0, -3), 0);
        due("least / -1 wraps", worked(OVER, LEAST, -1), LEAST);
        due("least / 1", worked(OVER, LEAST, 1), LEAST);
        due("least / 2", worked(OVER, LEAST, 2), -4611686018427387904L);
        due("most / -1", worked(OVER, MOST, -1), -MOST);
        due("most / least", worked(OVER, MOST, LEAST), 0);
        due("least / most", worked(OVER, LEAST, MOST), -1);
        due("by more than an int", worked(OVER, MOST, 1L << 32), 2147483647L);
    }

    private static void wasWorked() {
        for (int number : new int[] {5, 0, -1}) {
            Counted x = scene();
            x.cls(2);
            x.instance(0, 0);
            x.body(0, 0, x.node(NUMBER, number, 0, 0));
            x.body(0, 1, x.node(OWN, 0, 0, 0));
            x.dictionary(0, 2);
            due("value(0, 0)", x.value(0, 0), number);
            dueSteps("worked", x, 0, 0);
            due("again", x.value(0, 0), number);
            dueSteps("worked before", x);
            due("by another", x.value(0, 1), number);
            dueSteps("just the other", x, 0, 1);
            due("begun(0, 0)", x.begun(0, 0), 1);
            due("no fault", x.failed(0), 0);
        }
    }

    private static void wasWorkedIsNeverDeep() {
        Counted x = chain(41, 5);
        due("the 41st by itself", x.value(40, 0), 5);
        due("now 40 stand above it", x.value(0, 0), 5);
        due("count(6)", x.count(6), 40);
    }

    private static void rings() {
        Counted x = scene();
        x.cls(3);
        x.cls(1);
        x.superOf(1, 0);
        for (int h = 0; h < 3; h++) {
            x.instance(0, h);
        }
        x.instance(1, 0);
        x.context(1, 0, 0);
        x.body(0, 0, x.node(OWN, 0, 0, 0));
        x.body(0, 1, x.node(OWN, 2, 0, 0));
        x.body(0, 2, x.node(OWN, 1, 0, 0));
        x.body(1, 0, x.node(AT, 0, x.type(2, 0, 0), 0));
        x.body(2, 0, x.node(AT, 0, x.type(1, 0, 0), 0));
        x.body(3, 0, x.node(AT, 1, 2, 0));
        due("dictionary(0, 2)", x.dictionary(0, 2), 0);
        due("itself", x.value(0, 0), 0);
        dueFault("itself", x, RING, 0, 0);
        due("by another", x.value(0, 1), 0);
        dueFault("by another", x, RING, 0, 1);
        due("by another", x.value(0, 2), 0);
        dueFault("by another", x, RING, 0, 2);
        due("dictionary(1, 2)", x.dictionary(1, 2), 1);
        due("itself by AT", x.value(1, 0), 0);
        dueFault("itself by AT", x, RING, 1, 0);
        due("dictionary(0, 3)", x.dictionary(0, 3), 2);
        due("C1(C0) by C2(C0, C0)", x.value(2, 0), 0);
        dueFault("C1(C0) by C2(C0, C0)", x, RING, 2, 0);
        due("the one between is there", x.count(5), 4);
        due("from the other side", x.value(3, 0), 0);
        dueFault("from the other side", x, RING, 3, 0);
    }

    private static void ringOfForty() {
        Counted x = chain(40, 5);
        x.body(0, 0, x.node(AT, 0, 41, 0));
        due("dictionary(0, 41)", x.dictionary(0, 41), 0);
        due("40 are at work, and the first is needed", x.value(0, 0), 0);
        dueFault("a ring goes ahead of what is deep", x, RING, 0, 0);
        Counted y = chain(41, 5);
        y.body(0, 0, y.node(AT, 0, 42, 0));
        y.dictionary(0, 42);
        due("a ring of 41", y.value(0, 0), 0);
        dueFault("is deep", y, DEEP, 40, 0);
    }

    private static void fortyAtWork() {
        for (int length = 39; length <= 42; length++) {
            Counted x = chain(length, 5);
            boolean deep = length > 40;
            due(length + " at work", x.value(0, 0), deep ? 0 : 5);
            dueFault(length + " at work", x, deep ? DEEP : 0, deep ? 40 : NONE, deep ? 0 : NONE);
            due("count(6)", x.count(6), deep ? 0 : length);
            due("begun(39, 0)", x.begun(39, 0), length < 40 ? BAD : 1);
            due("begun(40, 0)", x.begun(40, 0), deep ? 0 : BAD);
        }
        Counted x = chain(60, 5);
        due("from 20 on there are 40", x.value(20, 0), 5);
        due("count(6)", x.count(6), 40);
        due("then the 20 above them", x.value(0, 0), 5);
        due("count(6)", x.count(6), 20);
        Counted y = chain(60, 5);
        due("from 19 on there are 41", y.value(19, 0), 0);
        dueFault("from 19 on there are 41", y, DEEP, 59, 0);
    }

    private static void deepGoesAheadOfMissing() {
        Counted x = chain(41, NONE);
        due("the 41st is missing", x.value(0, 0), 0);
        dueFault("the 41st is missing", x, DEEP, 40, 0);
        due("the 40th is missing", x.value(1, 0), 0);
        dueFault("the 40th is missing", x, MISSING, 40, 0);
    }

    private static void bodyOrStandard() {
        for (int given = 0; given < 4; given++) {
            Counted x = scene();
            x.cls(2);
            x.cls(2);
            x.superOf(1, 0);
            x.instance(0, 0);
            x.instance(1, 0);
            x.instance(1, 1);
            x.standard(0, 1, x.node(NUMBER, 7, 0, 0));
            x.body(2, 1, x.node(NUMBER, 8, 0, 0));
            x.standard(1, 1, (given & 1) == 0 ? NONE : x.node(NUMBER, 11, 0, 0));
            x.body(1, 1, (given & 2) == 0 ? NONE : x.node(NUMBER, 22, 0, 0));
            due("dictionary(1, 2)", x.dictionary(1, 2), 0);
            String what = "given " + given;
            due(what, x.value(0, 1), given >= 2 ? 22 : given == 1 ? 11 : 0);
            dueFault(what, x, given == 0 ? MISSING : 0, given == 0 ? 0 : NONE, given == 0 ? 1 : NONE);
            due(what + ": begun", x.begun(0, 1), given == 0 ? 0 : 1);
        }
    }

    /** MEMBERS 1, 2, 3 are 1, 2, 3; MEMBER 0 is of this KIND over all of them that it needs. */
    private static Counted sceneFromTheLeft(int kind, int first, int second, int third) {
        Counted x = scene();
        x.cls(4);
        x.instance(0, 0);
        for (int m = 1; m < 4; m++) {
            x.body(0, m, x.node(NUMBER, m, 0, 0));
        }
        int[] own = {0, x.node(OWN, 1, 0, 0), x.node(OWN, 2, 0, 0), x.node(OWN, 3, 0, 0)};
        x.body(0, 0, x.node(kind, own[first], own[second], own[third]));
        x.dictionary(0, 2);
        return x;
    }

    private static void fromTheLeft() {
        for (int kind = PLUS; kind <= OVER; kind++) {
            Counted x = sceneFromTheLeft(kind, 3, 1, 0);
            x.value(0, 0);
            dueSteps("kind " + kind, x, 0, 3, 0, 1, 0, 0);
            Counted y = sceneFromTheLeft(kind, 1, 3, 0);
            y.value(0, 0);
            dueSteps("kind " + kind, y, 0, 1, 0, 3, 0, 0);
        }
        Counted x = sceneFromTheLeft(IF, 3, 1, 2);
        due("if", x.value(0, 0), 1);
        dueSteps("if", x, 0, 3, 0, 1, 0, 0);
    }

    private static void firstFaultFromTheLeft() {
        for (int kind = PLUS; kind <= OVER; kind++) {
            Counted x = scene();
            x.cls(3);
            x.instance(0, 0);
            int nothing = x.node(NUMBER, 0, 0, 0);
            int zero = x.node(OVER, nothing, nothing, 0);
            int missing = x.node(OWN, 2, 0, 0);
            x.body(0, 0, x.node(kind, zero, missing, 0));
            x.body(0, 1, x.node(kind, missing, zero, 0));
            x.dictionary(0, 2);
            x.value(0, 0);
            dueFault("kind " + kind + ", zero on the left", x, ZERO, 0, 0);
            x.value(0, 1);
            dueFault("kind " + kind + ", zero on the right", x, MISSING, 0, 2);
        }
        Counted y = scene();
        y.cls(2);
        y.instance(0, 0);
        int nothing = y.node(NUMBER, 0, 0, 0);
        y.body(0, 0, y.node(OVER, y.node(OWN, 1, 0, 0), nothing, 0));
        y.dictionary(0, 2);
        y.value(0, 0);
        dueFault("what is missing on the left goes ahead of the zero", y, MISSING, 0, 1);
    }

    private static void sideThatCounts() {
        for (int asked = 0; asked <= 1; asked++) {
            Counted x = scene();
            x.cls(4);
            x.cls(1);
            x.instance(0, 1);
            int nothing = x.node(NUMBER, 0, 0, 0);
            int good = x.node(OWN, 1, 0, 0);
            int condition = x.node(NUMBER, asked, 0, 0);
            int[] bad = {x.node(OWN, 0, 0, 0), x.node(OWN, 3, 0, 0), x.node(OVER, nothing, nothing, 0),
                x.node(AT, 1, x.type(2, 0, 0), 0), x.node(OWN, 2, 0, 0), x.node(AT, 0, x.type(1, 2, 0), 1)};
            x.body(0, 1, x.node(NUMBER, 6, 0, 0));
            x.body(0, 2, x.node(NUMBER, 9, 0, 0));
            for (int other : bad) {
                x.body(0, 0, asked == 1 ? x.node(IF, condition, good, other) : x.node(IF, condition, other, good));
                x.dictionary(0, 4);
                int types = x.count(1);
                due("if " + asked, x.value(0, 0), 6);
                dueSteps("the other side is not worked", x, 0, 1, 0, 0);
                due("begun(0, 2)", x.begun(0, 2), 0);
                due("no type is made", x.count(1), types);
                due("no dictionary is made", x.count(5), 1);
            }
        }
    }

    private static void membersWorkedThen() {
        Counted x = scene();
        x.cls(4);
        x.instance(0, 0);
        int nothing = x.node(NUMBER, 0, 0, 0);
        int zero = x.node(OVER, nothing, nothing, 0);
        int one = x.node(OWN, 1, 0, 0);
        int two = x.node(OWN, 2, 0, 0);
        x.body(0, 0, x.node(PLUS, one, x.node(PLUS, zero, two, 0), 0));
        x.body(0, 1, x.node(NUMBER, 1, 0, 0));
        x.body(0, 2, x.node(NUMBER, 2, 0, 0));
        x.dictionary(0, 2);
        x.value(0, 0);
        dueFault("the zero ends it", x, ZERO, 0, 0);
        due("ahead of it", x.begun(0, 1), 1);
        due("after it", x.begun(0, 2), 0);
        due("value(0, 2)", x.value(0, 2), 2);
        dueSteps("it was not worked", x, 0, 2);
    }

    private static void argumentsPutIn() {
        Counted x = scene();
        x.cls(2);
        for (int h = 0; h < 3; h++) {
            x.instance(0, h);
            x.body(h, 1, x.node(NUMBER, 10 + h, 0, 0));
        }
        int pair = x.type(2, 2, 4);
        x.body(1, 0, x.node(AT, 0, 0, 1));
        int first = x.dictionary(0, 3);
        due("C1(C0): variable 0 is C0", x.value(first, 0), 10);
        int second = x.dictionary(0, 4);
        due("C1(C1(C0)): variable 0 is C1(C0)", x.value(second, 0), 11);
        x.body(2, 0, x.node(AT, 0, 1, 1));
        due("C2(C0, C1(C1(C0))): variable 1", x.value(x.dictionary(0, pair), 0), 11);
        due("it is made for that", x.about(1, 1), 4);
        x.body(2, 0, x.node(AT, 0, 0, 1));
        due("variable 0", x.value(x.dictionary(0, pair), 0), 10);
        due("it is made for that", x.about(1, 1), 2);
        x.body(2, 0, x.node(AT, 0, x.type(2, x.type(1, 1, 0), 0), 1));
        due("both", x.value(x.dictionary(0, pair), 0), 12);
        int came = x.about(1, 1);
        dueType("C2(C1(4), 2)", x, came, 2, x.typeOf(came, 1), 2);
        dueType("C1(4)", x, x.typeOf(came, 1), 1, 4, NONE);
    }

    private static void atMakes() {
        Counted x = scene();
        x.cls(1);
        x.cls(1);
        x.superOf(1, 0);
        x.instance(0, 1);
        x.instance(1, 1);
        x.instance(0, 0);
        x.body(2, 0, x.node(AT, 1, 3, 0));
        x.standard(1, 0, x.node(NUMBER, 4, 0, 0));
        due("dictionary(0, 2)", x.dictionary(0, 2), 0);
        due("count(5)", x.count(5), 1);
        due("value(0, 0)", x.value(0, 0), 4);
        due("it is made with its parts", x.count(5), 3);
        due("about(1, 0)", x.about(1, 0), 1);
        due("part(1, 0)", x.part(1, 0), 2);
        dueSteps("it", x, 1, 0, 0, 0);
        Counted y = scene();
        y.cls(1);
        y.instance(0, 1);
        y.instance(0, 0);
        y.body(1, 0, y.node(AT, 0, 3, 0));
        y.body(0, 0, y.node(NUMBER, 4, 0, 0));
        due("dictionary(0, 3)", y.dictionary(0, 3), 0);
        due("dictionary(0, 2)", y.dictionary(0, 2), 1);
        due("value(1, 0)", y.value(1, 0), 4);
        due("it is there", y.count(5), 2);
        dueSteps("the one that is there", y, 0, 0, 1, 0);
    }

    private static void atLacks() {
        Counted x = scene();
        x.cls(1);
        x.cls(1);
        x.instance(0, 0);
        x.instance(1, 1);
        x.context(1, 1, 0);
        x.body(0, 0, x.node(AT, 1, 2, 0));
        x.dictionary(0, 2);
        due("itself", x.value(0, 0), 0);
        dueFault("itself", x, LACKING, 0, 0);
        due("lack(0)", x.lack(0), 1);
        due("lack(1)", x.lack(1), 2);
        x.body(0, 0, x.node(AT, 1, 4, 0));
        x.dictionary(0, 2);
        due("a part of a part", x.value(0, 0), 0);
        dueFault("a part of a part", x, LACKING, 0, 0);
        due("lack(1)", x.lack(1), 2);
        due("count(5)", x.count(5), 1);
    }

    private static void atFull() {
        for (int there = 59; there <= 60; there++) {
            Counted x = wideScene();
            x.body(0, 0, x.node(AT, 6, 2, 0));
            x.standard(6, 0, x.node(NUMBER, 3, 0, 0));
            fillDictionaries(x, 0, there);
            due(there + " there", x.value(0, 0), there == 59 ? 3 : 0);
            dueFault(there + " there", x, there == 59 ? 0 : NO_ROOM, there == 59 ? NONE : 0, there == 59 ? NONE : 0);
            due("count(5)", x.count(5), 60);
        }
        Counted y = wideScene();
        y.cls(1);
        y.body(0, 0, y.node(AT, 7, 2, 0));
        fillDictionaries(y, 0, 60);
        due("no room, and it lacks", y.value(0, 0), 0);
        dueFault("no room, and it lacks", y, LACKING, 0, 0);
    }

    private static void atWantsTypes() {
        for (int there = 79; there <= 80; there++) {
            Counted x = scene();
            x.cls(2);
            x.cls(1);
            x.instance(0, 1);
            x.body(0, 0, x.node(AT, 0, x.type(1, x.type(1, 0, 0), 0), 1));
            x.body(0, 1, x.node(NUMBER, 3, 0, 0));
            for (int t = x.count(1); t < there; t++) {
                due("filling", x.type(2, t - 1, t - 1), t);
            }
            x.dictionary(0, 4);
            x.dictionary(0, 3);
            due(there + " there", x.value(0, 0), there == 79 ? 3 : 0);
            dueFault(there + " there", x, there == 79 ? 0 : NO_ROOM, there == 79 ? NONE : 0, there == 79 ? NONE : 0);
            due("count(1)", x.count(1), 80);
            due("what is there needs no room", x.value(1, 0), 3);
            due("failed(0)", x.failed(0), 0);
            due("no lack", x.lack(0), NONE);
        }
    }

    private static void overByZero() {
        for (long left : new long[] {0, 1, -1, MOST, LEAST}) {
            Counted x = scene();
            x.cls(3);
            x.instance(0, 0);
            x.body(0, 0, x.node(OVER, x.node(OWN, 1, 0, 0), x.node(OWN, 2, 0, 0), 0));
            x.body(0, 1, longNode(x, left));
            int half = longNode(x, LEAST);
            x.body(0, 2, x.node(PLUS, half, half, 0));
            x.dictionary(0, 2);
            due(left + " over 0", x.value(0, 0), 0);
            dueFault(left + " over 0", x, ZERO, 0, 0);
            dueSteps("both sides were worked", x, 0, 1, 0, 2);
        }
    }

    private static void staysWorked() {
        Counted x = faultScene(ZERO);
        x.value(0, 0);
        dueSteps("ahead of the fault", x, 0, 3);
        due("it stays", x.value(0, 3), 9);
        dueSteps("it stays", x);
        due("begun(0, 3)", x.begun(0, 3), 1);
        x.constructor(0);
        x.type(0, 0, 0);
        x.node(NUMBER, 1, 0, 0);
        x.dictionary(0, 3);
        due("it stays", x.value(0, 3), 9);
        due("begun(0, 3)", x.begun(0, 3), 1);
        due("another dictionary's is not worked", x.begun(1, 3), 0);
    }

    /**
     * MEMBER 0 is MEMBER 3, which is 9, and then MEMBER 1, which comes to this FAULT; MEMBER 2 is
     * missing. DICTIONARY 0 is at C1(C1(C0)).
     */
    private static Counted faultScene(int fault) {
        Counted x = scene();
        x.cls(4);
        x.cls(1);
        x.instance(0, 1);
        int nine = x.node(NUMBER, 9, 0, 0);
        x.body(0, 3, nine);
        x.body(0, 0, x.node(PLUS, x.node(OWN, 3, 0, 0), x.node(OWN, 1, 0, 0), 0));
        x.body(0, 1, faultyNode(x, fault, nine));
        for (int t = x.count(1); fault == NO_ROOM && t < 80; t++) {
            x.type(2, t - 1, t - 1);
        }
        x.dictionary(0, 4);
        return x;
    }

    private static int faultyNode(Counted x, int fault, int nine) {
        switch (fault) {
            case MISSING: return x.node(OWN, 2, 0, 0);
            case RING: return x.node(OWN, 0, 0, 0);
            case ZERO: return x.node(OVER, nine, x.node(LESS, nine, nine, 0), 0);
            case LACKING: return x.node(AT, 1, 2, 0);
            default: return x.node(AT, 0, x.type(1, x.type(1, 0, 0), 0), 1);
        }
    }

    private static void faultEndsAll() {
        for (int fault = MISSING; fault <= DEEP; fault++) {
            Counted x = faultScene(fault);
            for (int times = 1; times <= 3; times++) {
                due("fault " + fault, x.value(0, 0), 0);
                due("failed(0)", x.failed(0), fault);
                due("begun(0, 0)", x.begun(0, 0), times);
                due("begun(0, 1)", x.begun(0, 1), times);
                due("begun(0, 3)", x.begun(0, 3), 1);
                due("count(6)", x.count(6), times == 1 ? 1 : 0);
            }
            due("what is not part of it can be worked", x.value(0, 3), 9);
            due("failed(0)", x.failed(0), 0);
        }
    }

    private static void toldWhereFound() {
        int[][] told = {{MISSING, 0, 2}, {ZERO, 0, 1}, {LACKING, 0, 1}, {NO_ROOM, 0, 1}};
        for (int[] row : told) {
            Counted x = faultScene(row[0]);
            x.value(0, 0);
            dueFault("fault " + row[0], x, row[0], row[1], row[2]);
            due("value(0, 1)", x.value(0, 1), 0);
            dueFault("the same from within", x, row[0], row[1], row[2]);
        }
    }

    private static void toldWhatWouldBeWorked() {
        Counted x = faultScene(RING);
        x.value(0, 0);
        dueFault("a ring", x, RING, 0, 0);
        x.value(0, 1);
        dueFault("a ring from within", x, RING, 0, 1);
        Counted y = faultScene(DEEP);
        y.value(0, 0);
        dueFault("two in the first dictionary, 38 in others", y, DEEP, 39, 1);
        due("count(5)", y.count(5), 40);
        y.value(0, 1);
        dueFault("one in the first, 39 in others", y, DEEP, 40, 1);
        due("count(5)", y.count(5), 41);
        Counted z = chain(40, NONE);
        z.body(0, 0, z.node(OWN, 1, 0, 0));
        z.dictionary(0, 41);
        z.value(0, 0);
        dueFault("another member of the last one", z, DEEP, 39, 1);
    }

    private static void nothingOfThoseStays() {
        Counted x = chain(41, 5);
        due("deep", x.value(0, 0), 0);
        dueSteps("none of the 40 is a step", x);
        due("from the second on", x.value(1, 0), 5);
        due("all 40 of them are worked now", x.count(6), 40);
        due("begun(39, 0)", x.begun(39, 0), 2);
        due("begun(40, 0)", x.begun(40, 0), 1);
        due("and then the first", x.value(0, 0), 5);
        dueSteps("and then the first", x, 0, 0);
        for (int fault = MISSING; fault <= DEEP; fault++) {
            Counted y = faultScene(fault);
            y.value(0, 0);
            due("fault " + fault + ": within", y.value(0, 1), 0);
            due("it does not count as worked", y.failed(0), fault);
            due("nor as being worked: begun(0, 1)", y.begun(0, 1), 2);
            due("begun(0, 0)", y.begun(0, 0), fault == RING ? 2 : 1);
        }
    }

    private static void faultNumbers() {
        for (int fault = 1; fault <= 6; fault++) {
            Counted x = faultScene(fault);
            due("none yet", x.failed(0), 0);
            x.value(0, 0);
            due("fault " + fault, x.failed(0), fault);
        }
    }

    /** 40 MEMBERS, each with its need at the far end of a NODE of HEIGHT 8. */
    private static void highNodesAndDeepMembers() {
        Counted x = chain(41, 5);
        int one = x.node(NUMBER, 1, 0, 0);
        int high = x.node(OF_CONTEXT, 0, 0, 0);
        for (int n = 0; n < 8; n++) {
            high = n % 2 == 0 ? x.node(PLUS, one, high, 0) : x.node(IF, one, high, one);
        }
        x.body(1, 0, high);
        x.dictionary(0, 42);
        for (int again = 0; again < 3; again++) {
            due("value(0, 0)", x.value(0, 0), 0);
            dueFault("value(0, 0)", x, DEEP, 40, 0);
        }
        due("value(1, 0)", x.value(1, 0), 5 + 4 * 39);
        due("value(0, 0)", x.value(0, 0), 5 + 4 * 40);
        Counted y = chain(60, 5);
        int full = y.node(OF_CONTEXT, 0, 0, 0);
        for (int n = 0; n < 8; n++) {
            full = y.node(PLUS, full, full, 0);
        }
        y.body(1, 0, full);
        y.dictionary(0, 61);
        due("value(30, 0)", y.value(30, 0), 0);
        due("it wraps to 0", y.failed(0), 0);
        due("value(58, 0)", y.value(58, 0), 5 * 256);
        due("value(0, 0)", y.value(0, 0), 0);
        due("count(6)", y.count(6), 30);
    }

    /** The one in which the FAULT is found stands below others, and is not the one that was asked for. */
    private static void toldWhereFoundBelow() {
        for (int fault : new int[] {MISSING, ZERO, LACKING, NO_ROOM}) {
            Counted x = chain(4, 5);
            x.cls(1);
            x.constructor(2);
            x.body(0, 0, x.node(PLUS, x.node(NUMBER, 1, 0, 0), x.node(OWN, 1, 0, 0), 0));
            x.standard(0, 1, faultyStandard(x, fault));
            for (int t = x.count(1); fault == NO_ROOM && t < 80; t++) {
                x.type(1, t - 1, 0);
            }
            x.dictionary(0, 5);
            for (int d = 0; d < 4; d++) {
                due("value(" + d + ", 0)", x.value(d, 0), 0);
                dueFault("fault " + fault + " from " + d, x, fault, 3, 1);
            }
        }
    }

    private static int faultyStandard(Counted x, int fault) {
        int nothing = x.node(NUMBER, 0, 0, 0);
        switch (fault) {
            case MISSING: return NONE;
            case ZERO: return x.node(OVER, nothing, nothing, 0);
            case LACKING: return x.node(AT, 1, 2, 0);
            default: return x.node(AT, 0, x.type(2, 0, 0), 0);
        }
    }

    /** The longest value() that there can be: 240 MEMBERS, each with a NODE of HEIGHT 8 and all sides worked. */
    private static void allMembersOfHighNodes() {
        Counted x = sceneOfTwoChains();
        x.standard(0, 3, doubled(x, x.node(NUMBER, 1, 0, 0), 8));
        x.standard(0, 2, doubled(x, x.node(AT, 0, 0, 3), 8));
        x.standard(0, 1, doubled(x, x.node(AT, 0, 0, 2), 8));
        int own = x.node(OWN, 1, 0, 0);
        int one = x.node(PLUS, own, x.node(OF_CONTEXT, 0, 0, 0), 0);
        x.standard(0, 0, doubled(x, own, 8));
        x.body(1, 0, doubled(x, one, 7));
        x.body(2, 0, doubled(x, x.node(PLUS, one, x.node(OF_CONTEXT, 1, 0, 0), 0), 6));
        makeTwoChains(x);
        long member = 1L << 24;
        long left = member << 8;
        long right = member << 8;
        for (int n = 1; n < 30; n++) {
            left = (member + left) << 7;
            right = n < 29 ? (member + right) << 7 : right;
        }
        due("value(0, 0)", x.value(0, 0), (member + left + right) << 6);
        due("failed(0)", x.failed(0), 0);
        due("count(6)", x.count(6), 240);
        due("a member 1", x.value(17, 1), member);
        due("count(6)", x.count(6), 0);
    }

    private static int doubled(Counted x, int node, int times) {
        int high = node;
        for (int n = 0; n < times; n++) {
            high = x.node(PLUS, high, high, 0);
        }
        return high;
    }
}
