/**
 * The class behind a counter. What an object answers after its 512th call is free, so a test that
 * asks for more would test nothing: it is stopped.
 */
final class Counted {
    static final int MOST_CALLS = 512;

    private final DictionaryTerms inside = new DictionaryTerms();
    private int calls = 0;

    int calls() {
        return calls;
    }

    private DictionaryTerms next() {
        calls++;
        if (calls > MOST_CALLS) {
            throw new IllegalStateException("the test makes more than " + MOST_CALLS + " calls on one object");
        }
        return inside;
    }

    int constructor(int places) {
        return next().constructor(places);
    }

    int type(int constructor, int a, int b) {
        return next().type(constructor, a, b);
    }

    int cls(int members) {
        return next().cls(members);
    }

    int superOf(int cls, int other) {
        return next().superOf(cls, other);
    }

    int instance(int cls, int constructor) {
        return next().instance(cls, constructor);
    }

    int context(int instance, int cls, int variable) {
        return next().context(instance, cls, variable);
    }

    int node(int kind, int a, int b, int c) {
        return next().node(kind, a, b, c);
    }

    int body(int instance, int member, int node) {
        return next().body(instance, member, node);
    }

    int standard(int cls, int member, int node) {
        return next().standard(cls, member, node);
    }

    int dictionary(int cls, int type) {
        return next().dictionary(cls, type);
    }

    int lack(int what) {
        return next().lack(what);
    }

    int part(int dictionary, int k) {
        return next().part(dictionary, k);
    }

    int about(int dictionary, int what) {
        return next().about(dictionary, what);
    }

    long value(int dictionary, int member) {
        return next().value(dictionary, member);
    }

    int failed(int what) {
        return next().failed(what);
    }

    int step(int k, int what) {
        return next().step(k, what);
    }

    int begun(int dictionary, int member) {
        return next().begun(dictionary, member);
    }

    int typeOf(int type, int what) {
        return next().typeOf(type, what);
    }

    int count(int what) {
        return next().count(what);
    }
}
