import java.util.ArrayList;
import java.util.List;
import java.util.function.Supplier;
import java.util.function.ToIntFunction;

/** The last sentences of the document's Terms: what refusals do, and what takes DICTIONARIES away. */
final class EdgesOfRefusals extends Checks {
    static void all(Sentences s) {
        s.in("Terms");
        s.holds("Refusals change nothing:", EdgesOfRefusals::badChangesNothing);
        s.holds("Refusals change nothing:", EdgesOfRefusals::questionsChangeNothing);
        s.holds("Refusals change nothing:", EdgesOfRefusals::fullChangesNothing);
        s.holds("Refusals change nothing:", EdgesOfRefusals::badValueChangesNothingElse);
        s.holds("BAD (there is no such, or a number is not as told),", EdgesOfRefusals::badWithoutAnything);
        s.holds("then FULL.", EdgesOfRefusals::badThenFull);
        s.holds("cls(), superOf(), instance(), context(), body(), standard() that are not refused take all"
            + " DICTIONARIES away.", EdgesOfRefusals::takenAway);
        s.holds("that are not refused take all DICTIONARIES away.", EdgesOfRefusals::othersTakeNoneAway);
    }

    /** Four DICTIONARIES, some of it worked, a LACKS, and a value() with STEPS that came to a FAULT. */
    private static Counted busy() {
        Counted x = scene();
        x.cls(3);
        x.cls(2);
        x.superOf(1, 0);
        x.instance(0, 0);
        x.instance(0, 1);
        x.instance(1, 0);
        x.instance(1, 1);
        x.context(3, 1, 0);
        int own = x.node(OWN, 0, 0, 0);
        x.node(NUMBER, 6, 0, 0);
        int high = own;
        for (int n = 0; n < 8; n++) {
            high = x.node(PLUS, high, own, 0);
        }
        x.standard(0, 0, 1);
        x.standard(0, 1, high);
        x.body(3, 0, x.node(OF_CONTEXT, 0, 0, 0));
        x.body(2, 0, x.node(OF_SUPER, 0, 1, 0));
        x.body(1, 1, x.node(TIMES, own, x.node(OWN, 2, 0, 0), 0));
        x.dictionary(1, 3);
        x.value(0, 0);
        x.dictionary(0, x.type(2, 2, 2));
        x.value(3, 1);
        return x;
    }

    /** All that can be asked: of TYPES and DICTIONARIES the first six and the last two. */
    private static List<Long> answers(Counted x) {
        List<Long> all = new ArrayList<>();
        for (int what = 0; what <= 6; what++) {
            all.add((long) x.count(what));
        }
        for (int what = 0; what <= 2; what++) {
            all.add((long) x.failed(what));
        }
        all.add((long) x.lack(0));
        all.add((long) x.lack(1));
        for (int k = 0; k <= all.get(6); k++) {
            all.add((long) x.step(k, 0));
            all.add((long) x.step(k, 1));
        }
        for (int t = 0; t < all.get(1); t += t == 5 ? (int) Math.max(1, all.get(1) - 7) : 1) {
            for (int what = 0; what <= 3; what++) {
                all.add((long) x.typeOf(t, what));
            }
        }
        for (int d = 0; d < all.get(5); d += d == 5 ? (int) Math.max(1, all.get(5) - 7) : 1) {
            for (int what = 0; what <= 4; what++) {
                all.add((long) x.about(d, what));
            }
            all.add((long) x.part(d, 0));
            all.add((long) x.begun(d, 0));
            all.add((long) x.begun(d, 1));
        }
        workAndGoOn(x, all);
        return all;
    }

    /** What can't be asked shows in what is worked, and in the numbers that come next. */
    private static void workAndGoOn(Counted x, List<Long> all) {
        for (int d = 0; d < Math.min(4, all.get(5)); d++) {
            for (int m = 0; m < 3; m++) {
                all.add(x.value(d, m));
                all.add((long) x.failed(0));
                all.add((long) x.count(6));
            }
        }
        all.add((long) x.constructor(0));
        all.add((long) x.type(2, 1, 0));
        all.add((long) x.node(NUMBER, 1, 0, 0));
        all.add((long) x.context(3, 0, 0));
        all.add((long) x.instance(0, 2));
        all.add((long) x.cls(1));
        all.add((long) x.superOf(2, 1));
        all.add((long) x.dictionary(1, 4));
        for (int d = 0; d < Math.min(6, x.count(5)); d++) {
            for (int m = 0; m < 3; m++) {
                all.add(x.value(d, m));
            }
        }
    }

    private static void dueNoChange(String what, Supplier<Counted> scene, int want, ToIntFunction<Counted> call) {
        Counted x = scene.get();
        due(what, call.applyAsInt(x), want);
        List<Long> after = answers(x);
        List<Long> without = answers(scene.get());
        if (!after.equals(without)) {
            fail(what + " changes " + without + " to " + after);
        }
    }

    private static void dueBad(String what, ToIntFunction<Counted> call) {
        dueNoChange(what, EdgesOfRefusals::busy, BAD, call);
    }

    private static void badChangesNothing() {
        dueBad("constructor(3)", x -> x.constructor(3));
        dueBad("constructor(-1)", x -> x.constructor(-1));
        dueBad("type(3, 0, 0)", x -> x.type(3, 0, 0));
        dueBad("type(1, 6, 0)", x -> x.type(1, 6, 0));
        dueBad("type(2, 0, 6)", x -> x.type(2, 0, 6));
        dueBad("cls(0)", x -> x.cls(0));
        dueBad("cls(5)", x -> x.cls(5));
        dueBad("superOf(2, 0)", x -> x.superOf(2, 0));
        dueBad("superOf(1, 1)", x -> x.superOf(1, 1));
        dueBad("superOf(1, 0)", x -> x.superOf(1, 0));
        dueBad("superOf(0, 1)", x -> x.superOf(0, 1));
        dueBad("instance(2, 0)", x -> x.instance(2, 0));
        dueBad("instance(0, 3)", x -> x.instance(0, 3));
        dueBad("instance(0, 0)", x -> x.instance(0, 0));
        dueBad("context(4, 0, 0)", x -> x.context(4, 0, 0));
        dueBad("context(3, 2, 0)", x -> x.context(3, 2, 0));
        dueBad("context(3, 0, 1)", x -> x.context(3, 0, 1));
        dueBad("node(10, 0, 0, 0)", x -> x.node(10, 0, 0, 0));
        dueBad("node of height 9", x -> x.node(PLUS, 0, 9, 0));
        dueBad("node of a node that is not there", x -> x.node(PLUS, 0, 90, 0));
        dueBad("body(4, 0, 1)", x -> x.body(4, 0, 1));
        dueBad("body(3, 2, 1)", x -> x.body(3, 2, 1));
        dueBad("body(3, 2, NONE)", x -> x.body(3, 2, NONE));
        dueBad("body(3, 0, 40)", x -> x.body(3, 0, 40));
        dueBad("body(3, 0, BAD)", x -> x.body(3, 0, BAD));
        dueBad("body that does not fit", x -> x.body(1, 0, 10));
        dueBad("standard(2, 0, 1)", x -> x.standard(2, 0, 1));
        dueBad("standard(0, 3, 1)", x -> x.standard(0, 3, 1));
        dueBad("standard(0, 0, 40)", x -> x.standard(0, 0, 40));
        dueBad("standard that does not fit", x -> x.standard(0, 0, 10));
        dueBad("dictionary(2, 2)", x -> x.dictionary(2, 2));
        dueBad("dictionary(0, 6)", x -> x.dictionary(0, 6));
        dueBad("dictionary(0, 1)", x -> x.dictionary(0, 1));
    }

    private static void questionsChangeNothing() {
        dueBad("lack(2)", x -> x.lack(2));
        dueBad("part(4, 0)", x -> x.part(4, 0));
        dueBad("part(0, 2)", x -> x.part(0, 2));
        dueBad("about(4, 0)", x -> x.about(4, 0));
        dueBad("about(0, 5)", x -> x.about(0, 5));
        dueBad("failed(3)", x -> x.failed(3));
        dueBad("step(0, 2)", x -> x.step(0, 2));
        dueBad("begun(4, 0)", x -> x.begun(4, 0));
        dueBad("begun(0, 2)", x -> x.begun(0, 2));
        dueBad("typeOf(6, 0)", x -> x.typeOf(6, 0));
        dueBad("typeOf(0, 4)", x -> x.typeOf(0, 4));
        dueBad("count(7)", x -> x.count(7));
    }

    /** There is no room for anything more: of CONTEXTS in INSTANCE 15, of SUPERS in CLASS 7. */
    private static Counted full() {
        Counted x = wideScene();
        x.cls(1);
        x.instance(7, 0);
        x.instance(7, 1);
        for (int n = 2; n < 8; n++) {
            x.constructor(n == 2 ? 2 : 0);
        }
        for (int n = 0; n < 4; n++) {
            x.instance(n, 2);
        }
        for (int n = 0; n < 3; n++) {
            x.context(15, n, 0);
            x.superOf(7, n);
        }
        for (int t = 12; t < 80; t++) {
            x.type(1, t - 1, 0);
        }
        for (int n = 0; n < 80; n++) {
            x.node(n > 0 && n < 9 ? PLUS : NUMBER, Math.max(0, n - 1), Math.max(0, n - 1), 0);
        }
        x.body(0, 0, 79);
        for (int d = 0; d < 60; d++) {
            x.dictionary(d / 10, 2 + d % 10);
        }
        x.value(0, 0);
        return x;
    }

    private static void dueFull(String what, ToIntFunction<Counted> call) {
        dueNoChange(what, EdgesOfRefusals::full, FULL, call);
    }

    private static void fullChangesNothing() {
        dueFull("constructor(0)", x -> x.constructor(0));
        dueFull("type(2, 2, 2)", x -> x.type(2, 2, 2));
        dueFull("cls(1)", x -> x.cls(1));
        dueFull("superOf(7, 3)", x -> x.superOf(7, 3));
        dueFull("instance(4, 2)", x -> x.instance(4, 2));
        dueFull("context(15, 0, 0)", x -> x.context(15, 0, 0));
        dueFull("node(NUMBER, 0, 0, 0)", x -> x.node(NUMBER, 0, 0, 0));
        dueFull("dictionary(6, 2)", x -> x.dictionary(6, 2));
    }

    private static void dueBadFirst(String what, ToIntFunction<Counted> call) {
        dueNoChange(what, EdgesOfRefusals::full, BAD, call);
    }

    private static void badThenFull() {
        dueBadFirst("constructor(3)", x -> x.constructor(3));
        dueBadFirst("type(8, 0, 0)", x -> x.type(8, 0, 0));
        dueBadFirst("type(2, 80, 0)", x -> x.type(2, 80, 0));
        dueBadFirst("type(2, 0, 80)", x -> x.type(2, 0, 80));
        dueBadFirst("cls(0)", x -> x.cls(0));
        dueBadFirst("cls(5)", x -> x.cls(5));
        dueBadFirst("superOf(7, 7)", x -> x.superOf(7, 7));
        dueBadFirst("superOf(7, 2)", x -> x.superOf(7, 2));
        dueBadFirst("superOf(7, -1)", x -> x.superOf(7, -1));
        dueBadFirst("instance(3, 2)", x -> x.instance(3, 2));
        dueBadFirst("instance(8, 2)", x -> x.instance(8, 2));
        dueBadFirst("instance(4, 8)", x -> x.instance(4, 8));
        dueBadFirst("context(15, 8, 0)", x -> x.context(15, 8, 0));
        dueBadFirst("context(15, 0, 1)", x -> x.context(15, 0, 1));
        dueBadFirst("node(10, 0, 0, 0)", x -> x.node(10, 0, 0, 0));
        dueBadFirst("node(OWN, 4, 0, 0)", x -> x.node(OWN, 4, 0, 0));
        dueBadFirst("node of height 9", x -> x.node(PLUS, 0, 8, 0));
        dueBadFirst("node(AT, 0, 2, 1)", x -> x.node(AT, 0, 2, 1));
        dueBadFirst("dictionary(6, 1)", x -> x.dictionary(6, 1));
        dueBadFirst("dictionary(8, 2)", x -> x.dictionary(8, 2));
        dueBadFirst("dictionary(6, 80)", x -> x.dictionary(6, 80));
    }

    /** A value() that is BAD is the latest one, so its own report changes, but nothing else. */
    private static void badValueChangesNothingElse() {
        Counted x = busy();
        Counted y = busy();
        due("value(4, 0)", x.value(4, 0), 0);
        due("failed(0)", x.failed(0), BAD);
        for (int what = 0; what <= 5; what++) {
            due("count(" + what + ")", x.count(what), y.count(what));
        }
        due("lack(0)", x.lack(0), y.lack(0));
        due("lack(1)", x.lack(1), y.lack(1));
        for (int d = 0; d < 4; d++) {
            due("begun(" + d + ", 0)", x.begun(d, 0), y.begun(d, 0));
            for (int m = 0; m < 2; m++) {
                due("value(" + d + ", " + m + ")", x.value(d, m), y.value(d, m));
                due("count(6)", x.count(6), y.count(6));
            }
        }
    }

    private static void badWithoutAnything() {
        Counted x = new Counted();
        due("type", x.type(0, 0, 0), BAD);
        due("superOf", x.superOf(0, 0), BAD);
        due("instance", x.instance(0, 0), BAD);
        due("context", x.context(0, 0, 0), BAD);
        due("node of classes", x.node(AT, 0, 0, 0), BAD);
        for (int kind = PLUS; kind <= IF; kind++) {
            due("node of nodes", x.node(kind, 0, 0, 0), BAD);
        }
        due("body", x.body(0, 0, NONE), BAD);
        due("standard", x.standard(0, 0, NONE), BAD);
        due("dictionary", x.dictionary(0, 0), BAD);
        due("part", x.part(0, 0), BAD);
        due("about", x.about(0, 0), BAD);
        due("value", x.value(0, 0), 0);
        due("failed(0)", x.failed(0), BAD);
        due("begun", x.begun(0, 0), BAD);
        due("instance without constructors", x.instance(x.cls(1), 0), BAD);
        due("dictionary at a variable", x.dictionary(0, 0), BAD);
    }

    private static void dueTakenAway(String what, int want, ToIntFunction<Counted> call) {
        Counted x = busy();
        due("count(5)", x.count(5), 4);
        due(what, call.applyAsInt(x), want);
        due(what + ": count(5)", x.count(5), 0);
        for (int d = 0; d < 4; d++) {
            due(what + ": about(" + d + ", 0)", x.about(d, 0), BAD);
            due(what + ": part(" + d + ", 0)", x.part(d, 0), BAD);
            due(what + ": begun(" + d + ", 0)", x.begun(d, 0), BAD);
        }
        due(what + ": value(0, 0)", x.value(0, 0), 0);
        due(what + ": failed(0)", x.failed(0), BAD);
        due(what + ": numbers from 0 on", x.dictionary(0, 2), 0);
        due(what + ": none began", x.begun(0, 0), 0);
        due(what + ": worked anew", x.value(0, 0), 6);
        dueSteps(what + ": worked anew", x, 0, 0);
        due(what + ": begun(0, 0)", x.begun(0, 0), 1);
    }

    private static void takenAway() {
        dueTakenAway("cls(1)", 2, x -> x.cls(1));
        dueTakenAway("superOf(2, 1)", 1, x -> {
            x.cls(1);
            x.dictionary(0, 2);
            return x.superOf(2, 1);
        });
        dueTakenAway("instance(0, 2)", 4, x -> x.instance(0, 2));
        dueTakenAway("context(1, 1, 0)", 1, x -> x.context(1, 1, 0));
        dueTakenAway("body(3, 1, 1)", 1, x -> x.body(3, 1, 1));
        dueTakenAway("body(3, 1, NONE), which it is", 1, x -> x.body(3, 1, NONE));
        dueTakenAway("standard(1, 1, 1)", 1, x -> x.standard(1, 1, 1));
        dueTakenAway("standard(0, 0, 1), which it is", 1, x -> x.standard(0, 0, 1));
        dueTakenAway("standard(1, 0, NONE), which it is", 1, x -> x.standard(1, 0, NONE));
    }

    private static void othersTakeNoneAway() {
        Counted x = busy();
        due("constructor", x.constructor(1), 3);
        due("type", x.type(3, 2, 0), 6);
        due("node", x.node(NUMBER, 1, 0, 0), x.count(4) - 1);
        due("dictionary", x.dictionary(0, 3), 3);
        due("a new dictionary", x.dictionary(0, 4), 4);
        due("LACKS", x.dictionary(0, 6), LACKS);
        due("a value", x.value(1, 0), 54);
        due("a value that is BAD", x.value(9, 9), 0);
        due("a value with a fault", x.value(3, 1), 0);
        due("failed(0)", x.failed(0), MISSING);
        due("count(5)", x.count(5), 5);
        due("begun(0, 0)", x.begun(0, 0), 1);
        x.value(0, 0);
        dueSteps("it stays worked", x);
    }
}
