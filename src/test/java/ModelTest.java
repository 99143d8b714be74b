import java.util.ArrayList;
import java.util.Arrays;
import java.util.HashMap;
import java.util.HashSet;
import java.util.List;
import java.util.Map;
import java.util.Random;
import java.util.Set;
import java.util.TreeMap;

/**
 * Runs of drawn calls, from fixed seeds, 512 on each object, against a second program that was
 * written from the document in another way: recursive, with exceptions, and with no thought for
 * room or speed.
 */
public final class ModelTest {
    private static final int NONE = -1, BAD = -2, FULL = -3, LACKS = -4;
    private static final int[][] FIRST_TYPES = {{0, 0, 0}, {1, 2, 0}, {2, 3, 2}, {1, 0, 0}, {2, 1, 0}};
    private static final int RUNS = 4000, SETTING_UP = 130, CALLS_OF_VALUE = 7;

    public static void main(String[] args) {
        Map<String, Integer> seen = new TreeMap<>();
        int wrong = 0;
        for (int seed = 0; seed < RUNS && wrong < 5; seed++) {
            String fault = new Run(seed, seen).fault();
            if (fault != null) {
                wrong++;
                System.out.println("seed " + seed + ": " + fault);
            }
        }
        System.out.println("answers by kind: " + seen);
        for (String kind : List.of("fault 1", "fault 2", "fault 3", "fault 4", "fault 5", "fault 6",
                "fault 0", "fault -2", "dictionary -2", "dictionary -3", "dictionary -4", "type -3",
                "constructor -3", "cls -3", "superOf -3", "instance -3", "context -3", "node -3")) {
            if (!seen.containsKey(kind)) {
                wrong++;
                System.out.println("no run came to: " + kind);
            }
        }
        System.out.println(wrong == 0 ? RUNS + " runs are as due" : "some runs are not as due");
        if (wrong != 0) {
            System.exit(1);
        }
    }

    /** One run: draws calls, changes and questions, makes each on both programs, and compares. */
    private static final class Run {
        private final int seed;
        private final Random random;
        private final int mood;
        private final Counted x = new Counted();
        private final Model y = new Model();
        private final StringBuilder calls = new StringBuilder();
        private final Map<String, Integer> seen;
        private String fault = null;

        Run(int seed, Map<String, Integer> seen) {
            this.seed = seed;
            this.random = new Random(seed);
            this.mood = seed % 4;
            this.seen = seen;
        }

        String fault() {
            while (x.calls() <= Counted.MOST_CALLS - CALLS_OF_VALUE && fault == null) {
                call(x.calls());
            }
            while (x.calls() < Counted.MOST_CALLS && fault == null) {
                ask();
            }
            return fault;
        }

        private void call(int n) {
            boolean early = mood != 0 && n < SETTING_UP;
            int changes = mood == 0 ? 40 + 20 * (seed / 4 % 2) : 4;
            int draw = random.nextInt(100);
            if (early) {
                setUp(n);
            } else if (draw < changes) {
                change(random.nextInt(13));
            } else if (draw < changes + 15 || y.dictionaries.isEmpty()) {
                dictionary();
            } else if (draw < changes + 30) {
                value();
            } else {
                ask();
            }
        }

        private void dictionary() {
            int c = near(y.classes.size());
            int t = near(y.types.size());
            for (int again = 0; again < 5 && y.typeOf(t, 3) == 0; again++) {
                t = near(y.types.size());
            }
            tell("dictionary", x.dictionary(c, t), y.dictionary(c, t), c, t);
        }

        private void value() {
            int d = near(y.dictionaries.size());
            int m = random.nextInt(20) == 0 ? near(5) : random.nextInt(2);
            tell("value", x.value(d, m), y.value(d, m), d, m);
            note("fault " + y.failed[0]);
            compareReport();
        }

        /** A scene in which most of what is asked for later can be found. */
        private void setUp(int n) {
            if (n < 3) {
                tell("constructor", x.constructor(n), y.constructor(n), n);
            } else if (n < 8) {
                int[] row = FIRST_TYPES[n - 3];
                tell("type", x.type(row[0], row[1], row[2]), y.type(row[0], row[1], row[2]), row);
            } else if (n < 12 + mood) {
                change(1);
            } else if (n < 18) {
                change(3);
            } else if (n < 21) {
                change(4);
            } else if (n < 30) {
                int c = (n - 21) / 3;
                int h = (n - 21) % 3;
                tell("instance", x.instance(c, h), y.instance(c, h), c, h);
            } else if (n < 36) {
                change(7);
            } else {
                change(n < 66 ? 8 : 11);
            }
        }

        /** The kinds of change stand in the order in which one needs the other. */
        private void change(int kind) {
            int a;
            int b;
            int c;
            switch (kind) {
                case 0:
                    a = random.nextInt(9) == 0 ? near(3) : random.nextInt(3);
                    tell("constructor", x.constructor(a), y.constructor(a), a);
                    break;
                case 1:
                case 2:
                    a = near(y.places.size());
                    b = random.nextInt(5) == 0 ? near(2) : near(y.types.size());
                    c = random.nextInt(5) == 0 ? near(2) : near(y.types.size());
                    tell("type", x.type(a, b, c), y.type(a, b, c), a, b, c);
                    break;
                case 3:
                    a = random.nextInt(9) == 0 ? near(6) : mood == 3 ? 2 : 1 + random.nextInt(4);
                    tell("cls", x.cls(a), y.cls(a), a);
                    break;
                case 4:
                    a = near(y.classes.size());
                    b = near(y.classes.size());
                    tell("superOf", x.superOf(a, b), y.superOf(a, b), a, b);
                    break;
                case 5:
                case 6:
                    a = near(y.classes.size());
                    b = near(y.places.size());
                    tell("instance", x.instance(a, b), y.instance(a, b), a, b);
                    break;
                case 7:
                    a = near(y.instances.size());
                    b = near(y.classes.size());
                    c = near(2);
                    tell("context", x.context(a, b, c), y.context(a, b, c), a, b, c);
                    break;
                case 8:
                case 9:
                case 10:
                    node();
                    break;
                default:
                    bodyOrStandard();
            }
        }

        private void node() {
            int kind = random.nextInt(20) == 0 ? near(10) : random.nextInt(10);
            if (mood == 2 && random.nextInt(3) == 0 || y.nodes.size() < 6) {
                kind = mood == 2 ? 4 : random.nextInt(5);
            }
            int a = argument(kind, 0);
            int b = argument(kind, 1);
            int c = argument(kind, 2);
            tell("node", x.node(kind, a, b, c), y.node(kind, a, b, c), kind, a, b, c);
        }

        private int argument(int kind, int place) {
            if (kind == 0) {
                return random.nextInt(5) == 0 ? random.nextInt() : random.nextInt(5) - 1;
            }
            if (kind < 4) {
                return random.nextInt(9) == 0 ? near(4) : random.nextInt(2);
            }
            if (kind == 4) {
                return place == 0 ? near(y.classes.size()) : place == 1 ? near(y.types.size()) : random.nextInt(3);
            }
            return near(y.nodes.size());
        }

        private void bodyOrStandard() {
            int member = random.nextInt(5) == 0 ? near(5) : random.nextInt(2);
            int node = random.nextInt(20) == 0 ? NONE : near(y.nodes.size());
            if (random.nextInt(3) == 0) {
                int a = near(y.classes.size());
                tell("standard", x.standard(a, member, node), y.standard(a, member, node), a, member, node);
            } else {
                int a = near(y.instances.size());
                tell("body", x.body(a, member, node), y.body(a, member, node), a, member, node);
            }
        }

        /** Mostly a number that is there, now and then one beside it or far off. */
        private int near(int size) {
            int draw = random.nextInt(40);
            if (draw == 0) {
                return size;
            }
            if (draw == 1) {
                return -1 - random.nextInt(4);
            }
            if (draw == 2 && random.nextInt(4) == 0) {
                return random.nextInt();
            }
            return size == 0 ? 0 : random.nextInt(size);
        }

        private void note(String kind) {
            seen.merge(kind, 1, Integer::sum);
        }

        private void tell(String name, long got, long want, int... arguments) {
            String call = name + Arrays.toString(arguments);
            calls.append(call).append(" -> ").append(want).append("; ");
            if (want < 0 && !name.equals("value")) {
                note(name + " " + want);
            }
            same(call, got, want);
        }

        private void same(String call, long got, long want) {
            if (got != want && fault == null) {
                fault = calls + "\n  " + call + " answered " + got + ", due is " + want;
            }
        }

        private void compareReport() {
            for (int what = 0; what <= 2; what++) {
                same("failed " + what, x.failed(what), y.failed[what]);
            }
            same("count 6", x.count(6), y.steps.size());
            int k = near(y.steps.size());
            same("step " + k + ", 0", x.step(k, 0), y.step(k, 0));
            same("step " + k + ", 1", x.step(k, 1), y.step(k, 1));
        }

        private void ask() {
            int d = near(y.dictionaries.size());
            int k = near(7);
            int t = near(y.types.size());
            switch (random.nextInt(12)) {
                case 0: tell("lack", x.lack(k % 3), y.lack(k % 3), k % 3); break;
                case 1: tell("failed", x.failed(k % 4), y.failed(k % 4), k % 4); break;
                case 2: tell("step", x.step(d, k % 3), y.step(d, k % 3), d, k % 3); break;
                case 3: tell("count", x.count(k), y.count(k), k); break;
                case 4:
                case 5: tell("typeOf", x.typeOf(t, k % 5), y.typeOf(t, k % 5), t, k % 5); break;
                case 6:
                case 7: tell("begun", x.begun(d, k % 5), y.begun(d, k % 5), d, k % 5); break;
                case 8:
                case 9: tell("part", x.part(d, k), y.part(d, k), d, k); break;
                default: tell("about", x.about(d, k % 6), y.about(d, k % 6), d, k % 6);
            }
        }
    }

    private static final class Fault extends RuntimeException {
        private static final long serialVersionUID = 1;
        final int kind, dictionary, member;

        Fault(int kind, int dictionary, int member) {
            this.kind = kind;
            this.dictionary = dictionary;
            this.member = member;
        }
    }

    private static final class Refusal extends RuntimeException {
        private static final long serialVersionUID = 1;
        final int answer;

        Refusal(int answer) {
            this.answer = answer;
        }
    }

    private record Type(int head, List<Integer> arguments, int variable) { }

    private static final class Cls {
        int members;
        final List<Integer> supers = new ArrayList<>();
        final Map<Integer, Integer> standards = new HashMap<>();
    }

    private static final class Instance {
        int cls, constructor;
        final List<int[]> contexts = new ArrayList<>();
        final Map<Integer, Integer> bodies = new HashMap<>();
    }

    private static final class Dictionary {
        int cls, type, instance;
        final List<Integer> parts = new ArrayList<>();
        final Map<Integer, Long> values = new HashMap<>();
        final int[] begun = new int[4];
    }

    private static final class Model {
        final List<Integer> places = new ArrayList<>();
        final List<Type> types = new ArrayList<>();
        final List<Cls> classes = new ArrayList<>();
        final List<Instance> instances = new ArrayList<>();
        final List<int[]> nodes = new ArrayList<>();
        final List<Dictionary> dictionaries = new ArrayList<>();
        final List<int[]> atWork = new ArrayList<>();
        final List<int[]> steps = new ArrayList<>();
        int[] failed = {0, NONE, NONE};
        int lackedClass = NONE, lackedType = NONE;

        Model() {
            types.add(new Type(NONE, List.of(), 0));
            types.add(new Type(NONE, List.of(), 1));
        }

        private static boolean in(int number, List<?> list) {
            return number >= 0 && number < list.size();
        }

        int constructor(int count) {
            if (count < 0 || count > 2) {
                return BAD;
            }
            if (places.size() == 8) {
                return FULL;
            }
            places.add(count);
            return places.size() - 1;
        }

        int type(int constructor, int a, int b) {
            if (!in(constructor, places)) {
                return BAD;
            }
            List<Integer> arguments = List.of(a, b).subList(0, places.get(constructor));
            for (int argument : arguments) {
                if (!in(argument, types)) {
                    return BAD;
                }
            }
            return typeMade(new Type(constructor, List.copyOf(arguments), NONE));
        }

        private int typeMade(Type type) {
            if (types.contains(type)) {
                return types.indexOf(type);
            }
            if (types.size() == 80) {
                return FULL;
            }
            types.add(type);
            return types.size() - 1;
        }

        int typeOf(int type, int what) {
            if (!in(type, types) || what < 0 || what > 3) {
                return BAD;
            }
            if (what == 0) {
                return types.get(type).head();
            }
            if (what == 3) {
                return variablesIn(type).isEmpty() ? 1 : 0;
            }
            List<Integer> arguments = types.get(type).arguments();
            return what <= arguments.size() ? arguments.get(what - 1) : NONE;
        }

        private Set<Integer> variablesIn(int type) {
            Set<Integer> inside = new HashSet<>();
            boolean[] reached = new boolean[80];
            reached[type] = true;
            for (int t = type; t >= 0; t--) {
                if (reached[t]) {
                    if (types.get(t).variable() != NONE) {
                        inside.add(types.get(t).variable());
                    }
                    for (int argument : types.get(t).arguments()) {
                        reached[argument] = true;
                    }
                }
            }
            return inside;
        }

        private int putIn(int type, List<Integer> forVariables, Map<Integer, Integer> known) {
            if (known.containsKey(type)) {
                return known.get(type);
            }
            Type old = types.get(type);
            int comes;
            if (old.variable() != NONE) {
                comes = forVariables.get(old.variable());
            } else {
                List<Integer> arguments = new ArrayList<>();
                for (int argument : old.arguments()) {
                    arguments.add(putIn(argument, forVariables, known));
                }
                comes = typeMade(new Type(old.head(), List.copyOf(arguments), NONE));
                if (comes == FULL) {
                    throw new Refusal(FULL);
                }
            }
            known.put(type, comes);
            return comes;
        }

        int cls(int members) {
            if (members < 1 || members > 4) {
                return BAD;
            }
            if (classes.size() == 8) {
                return FULL;
            }
            Cls made = new Cls();
            made.members = members;
            classes.add(made);
            dictionaries.clear();
            return classes.size() - 1;
        }

        int superOf(int cls, int other) {
            if (!in(cls, classes) || !in(other, classes) || other >= cls
                    || classes.get(cls).supers.contains(other)) {
                return BAD;
            }
            if (classes.get(cls).supers.size() == 3) {
                return FULL;
            }
            classes.get(cls).supers.add(other);
            dictionaries.clear();
            return classes.get(cls).supers.size();
        }

        private int instanceFor(int cls, int constructor) {
            for (int i = 0; i < instances.size(); i++) {
                if (instances.get(i).cls == cls && instances.get(i).constructor == constructor) {
                    return i;
                }
            }
            return NONE;
        }

        int instance(int cls, int constructor) {
            if (!in(cls, classes) || !in(constructor, places) || instanceFor(cls, constructor) != NONE) {
                return BAD;
            }
            if (instances.size() == 20) {
                return FULL;
            }
            Instance made = new Instance();
            made.cls = cls;
            made.constructor = constructor;
            instances.add(made);
            dictionaries.clear();
            return instances.size() - 1;
        }

        int context(int instance, int cls, int variable) {
            if (!in(instance, instances) || !in(cls, classes) || variable < 0
                    || variable >= places.get(instances.get(instance).constructor)) {
                return BAD;
            }
            List<int[]> contexts = instances.get(instance).contexts;
            if (contexts.size() == 3) {
                return FULL;
            }
            contexts.add(new int[] {cls, variable});
            dictionaries.clear();
            return contexts.size();
        }

        int node(int kind, int a, int b, int c) {
            int[] row = {kind, a, b, c};
            boolean good = kind == 0
                || kind == 1 && a >= 0 && a <= 3
                || (kind == 2 || kind == 3) && a >= 0 && a <= 3 && b >= 0 && b <= 3
                || kind == 4 && in(a, classes) && in(b, types) && c >= 0 && c < classes.get(a).members
                || kind >= 5 && kind <= 8 && in(a, nodes) && in(b, nodes)
                || kind == 9 && in(a, nodes) && in(b, nodes) && in(c, nodes);
            if (!good || height(row) > 8) {
                return BAD;
            }
            if (nodes.size() == 80) {
                return FULL;
            }
            nodes.add(row);
            return nodes.size() - 1;
        }

        private List<int[]> inside(int[] node) {
            List<int[]> all = new ArrayList<>();
            for (int k = 1; k <= (node[0] == 9 ? 3 : node[0] >= 5 ? 2 : 0); k++) {
                all.add(nodes.get(node[k]));
            }
            return all;
        }

        private int height(int[] node) {
            int greatest = -1;
            for (int[] part : inside(node)) {
                greatest = Math.max(greatest, height(part));
            }
            return greatest + 1;
        }

        private boolean isMember(int cls, int member) {
            return member >= 0 && member < classes.get(cls).members;
        }

        private boolean fits(int[] node, int cls, List<int[]> contexts, int variables) {
            for (int[] part : inside(node)) {
                if (!fits(part, cls, contexts, variables)) {
                    return false;
                }
            }
            List<Integer> supers = classes.get(cls).supers;
            switch (node[0]) {
                case 1: return isMember(cls, node[1]);
                case 2: return node[1] < contexts.size() && isMember(contexts.get(node[1])[0], node[2]);
                case 3: return node[1] < supers.size() && isMember(supers.get(node[1]), node[2]);
                case 4: return variablesIn(node[2]).stream().allMatch(v -> v < variables);
                default: return true;
            }
        }

        int body(int instance, int member, int node) {
            if (!in(instance, instances) || !isMember(instances.get(instance).cls, member)) {
                return BAD;
            }
            Instance of = instances.get(instance);
            if (node != NONE && (!in(node, nodes)
                    || !fits(nodes.get(node), of.cls, of.contexts, places.get(of.constructor)))) {
                return BAD;
            }
            of.bodies.put(member, node);
            dictionaries.clear();
            return 1;
        }

        int standard(int cls, int member, int node) {
            if (!in(cls, classes) || !isMember(cls, member)) {
                return BAD;
            }
            if (node != NONE && (!in(node, nodes) || !fits(nodes.get(node), cls, List.of(), 1))) {
                return BAD;
            }
            classes.get(cls).standards.put(member, node);
            dictionaries.clear();
            return 1;
        }

        int dictionary(int cls, int type) {
            if (!in(cls, classes) || !in(type, types) || !variablesIn(type).isEmpty()) {
                return BAD;
            }
            try {
                return making(cls, type);
            } catch (Refusal refusal) {
                return refusal.answer;
            }
        }

        private int making(int cls, int type) {
            int before = dictionaries.size();
            try {
                return make(cls, type);
            } catch (Refusal refusal) {
                dictionaries.subList(before, dictionaries.size()).clear();
                throw refusal;
            }
        }

        private int make(int cls, int type) {
            for (int d = 0; d < dictionaries.size(); d++) {
                if (dictionaries.get(d).cls == cls && dictionaries.get(d).type == type) {
                    return d;
                }
            }
            int instance = instanceFor(cls, types.get(type).head());
            if (instance == NONE) {
                lackedClass = cls;
                lackedType = type;
                throw new Refusal(LACKS);
            }
            if (dictionaries.size() == 60) {
                throw new Refusal(FULL);
            }
            int number = dictionaries.size();
            Dictionary made = new Dictionary();
            made.cls = cls;
            made.type = type;
            made.instance = instance;
            dictionaries.add(made);
            for (int[] context : instances.get(instance).contexts) {
                made.parts.add(make(context[0], types.get(type).arguments().get(context[1])));
            }
            for (int above : classes.get(cls).supers) {
                made.parts.add(make(above, type));
            }
            return number;
        }

        int lack(int what) {
            return what == 0 ? lackedClass : what == 1 ? lackedType : BAD;
        }

        int failed(int what) {
            return what >= 0 && what <= 2 ? failed[what] : BAD;
        }

        int step(int k, int what) {
            if (what < 0 || what > 1) {
                return BAD;
            }
            return in(k, steps) ? steps.get(k)[what] : NONE;
        }

        int count(int what) {
            List<List<?>> all = List.of(places, types, classes, instances, nodes, dictionaries, steps);
            return in(what, all) ? all.get(what).size() : BAD;
        }

        int part(int dictionary, int k) {
            return in(dictionary, dictionaries) && in(k, dictionaries.get(dictionary).parts)
                ? dictionaries.get(dictionary).parts.get(k) : BAD;
        }

        int about(int dictionary, int what) {
            if (!in(dictionary, dictionaries)) {
                return BAD;
            }
            Dictionary of = dictionaries.get(dictionary);
            Set<Integer> hanging = new HashSet<>();
            gather(dictionary, hanging);
            int[] answers = {of.cls, of.type, of.instance, of.parts.size(), hanging.size()};
            return what >= 0 && what < answers.length ? answers[what] : BAD;
        }

        private void gather(int dictionary, Set<Integer> hanging) {
            if (hanging.add(dictionary)) {
                for (int part : dictionaries.get(dictionary).parts) {
                    gather(part, hanging);
                }
            }
        }

        int begun(int dictionary, int member) {
            return in(dictionary, dictionaries) && isMember(dictionaries.get(dictionary).cls, member)
                ? dictionaries.get(dictionary).begun[member] : BAD;
        }

        long value(int dictionary, int member) {
            steps.clear();
            failed = new int[] {0, NONE, NONE};
            if (!in(dictionary, dictionaries) || !isMember(dictionaries.get(dictionary).cls, member)) {
                failed[0] = BAD;
                return 0;
            }
            try {
                return work(dictionary, member);
            } catch (Fault fault) {
                failed = new int[] {fault.kind, fault.dictionary, fault.member};
                return 0;
            } finally {
                atWork.clear();
            }
        }

        private long work(int d, int m) {
            Dictionary of = dictionaries.get(d);
            if (of.values.containsKey(m)) {
                return of.values.get(m);
            }
            if (atWork.stream().anyMatch(pair -> pair[0] == d && pair[1] == m)) {
                throw new Fault(2, d, m);
            }
            if (atWork.size() == 40) {
                throw new Fault(6, d, m);
            }
            int body = instances.get(of.instance).bodies.getOrDefault(m, NONE);
            int standard = classes.get(of.cls).standards.getOrDefault(m, NONE);
            if (body == NONE && standard == NONE) {
                throw new Fault(1, d, m);
            }
            of.begun[m]++;
            atWork.add(new int[] {d, m});
            List<Integer> variables = body == NONE ? List.of(of.type) : types.get(of.type).arguments();
            long result = evaluate(nodes.get(body == NONE ? standard : body), d, m, variables);
            atWork.remove(atWork.size() - 1);
            of.values.put(m, result);
            steps.add(new int[] {d, m});
            return result;
        }

        private long evaluate(int[] node, int d, int m, List<Integer> variables) {
            Dictionary of = dictionaries.get(d);
            switch (node[0]) {
                case 0: return node[1];
                case 1: return work(d, node[1]);
                case 2: return work(of.parts.get(node[1]), node[2]);
                case 3: return work(of.parts.get(instances.get(of.instance).contexts.size() + node[1]), node[2]);
                case 4: return work(dictionaryAt(node, d, m, variables), node[3]);
                case 9:
                    long asked = evaluate(nodes.get(node[1]), d, m, variables);
                    return evaluate(nodes.get(node[asked != 0 ? 2 : 3]), d, m, variables);
                default:
            }
            long left = evaluate(nodes.get(node[1]), d, m, variables);
            long right = evaluate(nodes.get(node[2]), d, m, variables);
            if (node[0] == 8 && right == 0) {
                throw new Fault(3, d, m);
            }
            return node[0] == 5 ? left + right : node[0] == 6 ? left - right
                : node[0] == 7 ? left * right : left / right;
        }

        private int dictionaryAt(int[] node, int d, int m, List<Integer> variables) {
            try {
                return making(node[1], putIn(node[2], variables, new HashMap<>()));
            } catch (Refusal refusal) {
                throw new Fault(refusal.answer == LACKS ? 4 : 5, d, m);
            }
        }
    }
}
