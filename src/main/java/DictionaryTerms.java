import java.util.Arrays;

/**
 * Classes of types worked by dictionaries. The words in capitals are those of the document, whose
 * promises the public methods keep in its order.
 */
public final class DictionaryTerms {
    public static final int NONE = -1, BAD = -2, FULL = -3, LACKS = -4;

    private final Types types;
    private final Classes classes;
    private final Instances instances;
    private final Nodes nodes;
    private final Values values;
    private final Dictionaries dictionaries;
    private final Report report;
    private final Worker worker;

    public DictionaryTerms() {
        types = new Types();
        classes = new Classes();
        instances = new Instances(types, classes);
        nodes = new Nodes(types, classes, instances);
        values = new Values();
        dictionaries = new Dictionaries(types, classes, instances, values);
        report = new Report();
        worker = new Worker(types, nodes, instances, classes, values, dictionaries, report);
    }

    public int constructor(int places) {
        return types.addConstructor(places);
    }

    public int type(int constructor, int a, int b) {
        return types.addType(constructor, a, b);
    }

    public int cls(int members) {
        return afterChange(classes.add(members));
    }

    public int superOf(int cls, int other) {
        return afterChange(classes.addSuper(cls, other));
    }

    public int instance(int cls, int constructor) {
        return afterChange(instances.add(cls, constructor));
    }

    public int context(int instance, int cls, int variable) {
        return afterChange(instances.addContext(instance, cls, variable));
    }

    public int node(int kind, int a, int b, int c) {
        return nodes.add(kind, a, b, c);
    }

    public int body(int instance, int member, int node) {
        if (!instances.has(instance) || !classes.hasMember(instances.classOf(instance), member)) {
            return BAD;
        }
        if (node != NONE && !nodes.fitsInstance(node, instance)) {
            return BAD;
        }
        instances.setBody(instance, member, node);
        return afterChange(1);
    }

    public int standard(int cls, int member, int node) {
        if (!classes.hasMember(cls, member)) {
            return BAD;
        }
        if (node != NONE && !nodes.fitsClass(node, cls)) {
            return BAD;
        }
        classes.setStandard(cls, member, node);
        return afterChange(1);
    }

    public int dictionary(int cls, int type) {
        if (!classes.has(cls) || !types.has(type) || !types.isClosed(type)) {
            return BAD;
        }
        return dictionaries.make(cls, type);
    }

    public int lack(int what) {
        switch (what) {
            case 0: return dictionaries.lackingClass();
            case 1: return dictionaries.lackingType();
            default: return BAD;
        }
    }

    public int part(int dictionary, int k) {
        if (!dictionaries.has(dictionary) || k < 0 || k >= dictionaries.partsOf(dictionary)) {
            return BAD;
        }
        return dictionaries.partAt(dictionary, k);
    }

    public int about(int dictionary, int what) {
        if (!dictionaries.has(dictionary)) {
            return BAD;
        }
        switch (what) {
            case 0: return dictionaries.classOf(dictionary);
            case 1: return dictionaries.typeAt(dictionary);
            case 2: return dictionaries.instanceOf(dictionary);
            case 3: return dictionaries.partsOf(dictionary);
            case 4: return dictionaries.hangingOn(dictionary);
            default: return BAD;
        }
    }

    public long value(int dictionary, int member) {
        if (!hasMember(dictionary, member)) {
            report.refuse();
            return 0;
        }
        return worker.work(dictionary, member);
    }

    public int failed(int what) {
        switch (what) {
            case 0: return report.fault();
            case 1: return report.faultDictionary();
            case 2: return report.faultMember();
            default: return BAD;
        }
    }

    public int step(int k, int what) {
        switch (what) {
            case 0: return report.stepDictionary(k);
            case 1: return report.stepMember(k);
            default: return BAD;
        }
    }

    public int begun(int dictionary, int member) {
        return hasMember(dictionary, member) ? values.begunOf(dictionary, member) : BAD;
    }

    public int typeOf(int type, int what) {
        if (!types.has(type)) {
            return BAD;
        }
        switch (what) {
            case 0: return types.constructorOf(type);
            case 1: return types.argument(type, 0);
            case 2: return types.argument(type, 1);
            case 3: return types.isClosed(type) ? 1 : 0;
            default: return BAD;
        }
    }

    public int count(int what) {
        switch (what) {
            case 0: return types.constructorsMade();
            case 1: return types.typesMade();
            case 2: return classes.made();
            case 3: return instances.made();
            case 4: return nodes.made();
            case 5: return dictionaries.made();
            case 6: return report.stepsTold();
            default: return BAD;
        }
    }

    /** A change may make DICTIONARIES other than they were, so none of them stays. */
    private int afterChange(int answer) {
        if (answer >= 0) {
            dictionaries.takeAway();
        }
        return answer;
    }

    private boolean hasMember(int dictionary, int member) {
        return dictionaries.has(dictionary)
            && classes.hasMember(dictionaries.classOf(dictionary), member);
    }

    /** CONSTRUCTORS and TYPES. The ARGUMENTS of a TYPE have lesser numbers than the TYPE. */
    private static final class Types {
        private static final int MOST_CONSTRUCTORS = 8, MOST_PLACES = 2, VARIABLES = 2;
        private static final int MOST_TYPES = 80;

        private final int[] places = new int[MOST_CONSTRUCTORS];
        private int constructors = 0;
        private final int[] head = new int[MOST_TYPES];
        private final int[] left = new int[MOST_TYPES];
        private final int[] right = new int[MOST_TYPES];
        /** One more than the greatest VARIABLE that stands in a TYPE: 0 if it is CLOSED. */
        private final int[] open = new int[MOST_TYPES];
        private int types = 0;
        /** For PUT IN alone: what each TYPE becomes, and the TYPES that wait for their ARGUMENTS. */
        private final int[] image = new int[MOST_TYPES];
        private final int[] waiting = new int[MOST_TYPES];

        Types() {
            for (int variable = 0; variable < VARIABLES; variable++) {
                addRow(NONE, NONE, NONE, variable + 1);
            }
        }

        int constructorsMade() {
            return constructors;
        }

        int typesMade() {
            return types;
        }

        boolean hasConstructor(int constructor) {
            return constructor >= 0 && constructor < constructors;
        }

        boolean has(int type) {
            return type >= 0 && type < types;
        }

        int placesOf(int constructor) {
            return places[constructor];
        }

        int constructorOf(int type) {
            return head[type];
        }

        int argument(int type, int place) {
            return place == 0 ? left[type] : right[type];
        }

        boolean isClosed(int type) {
            return open[type] == 0;
        }

        boolean needsOnlyBelow(int type, int variable) {
            return open[type] <= variable;
        }

        int addConstructor(int placeCount) {
            if (placeCount < 0 || placeCount > MOST_PLACES) {
                return BAD;
            }
            if (constructors >= MOST_CONSTRUCTORS) {
                return FULL;
            }
            places[constructors] = placeCount;
            return constructors++;
        }

        int addType(int constructor, int a, int b) {
            if (!hasConstructor(constructor)) {
                return BAD;
            }
            int needed = places[constructor];
            if ((needed > 0 && !has(a)) || (needed > 1 && !has(b))) {
                return BAD;
            }
            return findOrAdd(constructor, needed > 0 ? a : NONE, needed > 1 ? b : NONE);
        }

        /** Where the CONSTRUCTOR has no PLACE, NONE stands for the ARGUMENT. */
        private int findOrAdd(int constructor, int a, int b) {
            for (int t = VARIABLES; t < types; t++) {
                if (head[t] == constructor && left[t] == a && right[t] == b) {
                    return t;
                }
            }
            if (types >= MOST_TYPES) {
                return FULL;
            }
            int openLeft = a == NONE ? 0 : open[a];
            int openRight = b == NONE ? 0 : open[b];
            return addRow(constructor, a, b, Math.max(openLeft, openRight));
        }

        private int addRow(int constructor, int a, int b, int openness) {
            head[types] = constructor;
            left[types] = a;
            right[types] = b;
            open[types] = openness;
            return types++;
        }

        /**
         * The TYPE with these PUT IN for VARIABLES 0 and 1, or FULL. NONE may be given for a
         * VARIABLE that does not stand in it. Each TYPE is rebuilt once: a TYPE that shares its
         * ARGUMENTS may stand for a tree far too large to be walked.
         */
        int putIn(int type, int forZero, int forOne) {
            for (int t = 0; t < types; t++) {
                image[t] = open[t] == 0 ? t : NONE;
            }
            image[0] = forZero;
            image[1] = forOne;
            waiting[0] = type;
            int depth = image[type] == NONE ? 1 : 0;
            for (int turn = 0; turn < 2 * MOST_TYPES && depth > 0; turn++) {
                int at = waiting[depth - 1];
                int ahead = argumentToRebuild(at);
                if (ahead != NONE) {
                    waiting[depth++] = ahead;
                    continue;
                }
                int rebuilt = findOrAdd(head[at], imageOf(left[at]), imageOf(right[at]));
                if (rebuilt == FULL) {
                    return FULL;
                }
                image[at] = rebuilt;
                depth--;
            }
            return image[type];
        }

        private int argumentToRebuild(int type) {
            int a = left[type];
            if (a != NONE && image[a] == NONE) {
                return a;
            }
            int b = right[type];
            return b != NONE && image[b] == NONE ? b : NONE;
        }

        private int imageOf(int argument) {
            return argument == NONE ? NONE : image[argument];
        }
    }

    /** CLASSES with their SUPERS and STANDARDS. */
    private static final class Classes {
        private static final int MOST_CLASSES = 8, MOST_MEMBERS = 4, MOST_SUPERS = 3;

        private final int[] members = new int[MOST_CLASSES];
        private final int[] supers = new int[MOST_CLASSES];
        private final int[] superRow = new int[MOST_CLASSES * MOST_SUPERS];
        private final int[] standards = new int[MOST_CLASSES * MOST_MEMBERS];
        private int classes = 0;

        Classes() {
            Arrays.fill(standards, NONE);
        }

        int made() {
            return classes;
        }

        boolean has(int cls) {
            return cls >= 0 && cls < classes;
        }

        boolean hasMember(int cls, int member) {
            return has(cls) && member >= 0 && member < members[cls];
        }

        int supersOf(int cls) {
            return supers[cls];
        }

        int superAt(int cls, int k) {
            return superRow[cls * MOST_SUPERS + k];
        }

        int standardOf(int cls, int member) {
            return standards[cls * MOST_MEMBERS + member];
        }

        void setStandard(int cls, int member, int node) {
            standards[cls * MOST_MEMBERS + member] = node;
        }

        int add(int memberCount) {
            if (memberCount < 1 || memberCount > MOST_MEMBERS) {
                return BAD;
            }
            if (classes >= MOST_CLASSES) {
                return FULL;
            }
            members[classes] = memberCount;
            return classes++;
        }

        int addSuper(int cls, int other) {
            if (!has(cls) || other < 0 || other >= cls || hasAsSuper(cls, other)) {
                return BAD;
            }
            if (supers[cls] >= MOST_SUPERS) {
                return FULL;
            }
            superRow[cls * MOST_SUPERS + supers[cls]] = other;
            supers[cls]++;
            return supers[cls];
        }

        private boolean hasAsSuper(int cls, int other) {
            for (int k = 0; k < supers[cls]; k++) {
                if (superAt(cls, k) == other) {
                    return true;
                }
            }
            return false;
        }
    }

    /** INSTANCES with their CONTEXTS and BODIES. */
    private static final class Instances {
        private static final int MOST_INSTANCES = 20, MOST_CONTEXTS = 3;

        private final Types types;
        private final Classes classes;
        private final int[] cls = new int[MOST_INSTANCES];
        private final int[] head = new int[MOST_INSTANCES];
        private final int[] contexts = new int[MOST_INSTANCES];
        private final int[] contextClass = new int[MOST_INSTANCES * MOST_CONTEXTS];
        private final int[] contextVariable = new int[MOST_INSTANCES * MOST_CONTEXTS];
        private final int[] bodies = new int[MOST_INSTANCES * Classes.MOST_MEMBERS];
        private int instances = 0;

        Instances(Types types, Classes classes) {
            this.types = types;
            this.classes = classes;
            Arrays.fill(bodies, NONE);
        }

        int made() {
            return instances;
        }

        boolean has(int instance) {
            return instance >= 0 && instance < instances;
        }

        int classOf(int instance) {
            return cls[instance];
        }

        int placesOf(int instance) {
            return types.placesOf(head[instance]);
        }

        int contextsOf(int instance) {
            return contexts[instance];
        }

        int contextClassAt(int instance, int k) {
            return contextClass[instance * MOST_CONTEXTS + k];
        }

        int contextVariableAt(int instance, int k) {
            return contextVariable[instance * MOST_CONTEXTS + k];
        }

        int bodyOf(int instance, int member) {
            return bodies[instance * Classes.MOST_MEMBERS + member];
        }

        void setBody(int instance, int member, int node) {
            bodies[instance * Classes.MOST_MEMBERS + member] = node;
        }

        int find(int ofClass, int constructor) {
            for (int i = 0; i < instances; i++) {
                if (cls[i] == ofClass && head[i] == constructor) {
                    return i;
                }
            }
            return NONE;
        }

        int add(int ofClass, int constructor) {
            if (!classes.has(ofClass) || !types.hasConstructor(constructor)) {
                return BAD;
            }
            if (find(ofClass, constructor) != NONE) {
                return BAD;
            }
            if (instances >= MOST_INSTANCES) {
                return FULL;
            }
            cls[instances] = ofClass;
            head[instances] = constructor;
            return instances++;
        }

        int addContext(int instance, int ofClass, int variable) {
            if (!has(instance) || !classes.has(ofClass)) {
                return BAD;
            }
            if (variable < 0 || variable >= placesOf(instance)) {
                return BAD;
            }
            if (contexts[instance] >= MOST_CONTEXTS) {
                return FULL;
            }
            int at = instance * MOST_CONTEXTS + contexts[instance];
            contextClass[at] = ofClass;
            contextVariable[at] = variable;
            contexts[instance]++;
            return contexts[instance];
        }
    }

    /** NODES, and whether they FIT. The NODES in a NODE have lesser numbers than the NODE. */
    private static final class Nodes {
        private static final int NUMBER = 0, OWN = 1, OF_CONTEXT = 2, OF_SUPER = 3, AT = 4;
        private static final int PLUS = 5, LESS = 6, TIMES = 7, OVER = 8, IF = 9;
        private static final int MOST_NODES = 80, MOST_HEIGHT = 8, GREATEST_INDEX = 3;

        private final Types types;
        private final Classes classes;
        private final Instances instances;
        private final int[] kind = new int[MOST_NODES];
        private final int[] first = new int[MOST_NODES];
        private final int[] second = new int[MOST_NODES];
        private final int[] third = new int[MOST_NODES];
        private final int[] height = new int[MOST_NODES];
        private int nodes = 0;
        /** For FITS alone: which NODES stand in the one that is looked at. */
        private final boolean[] standsIn = new boolean[MOST_NODES];

        Nodes(Types types, Classes classes, Instances instances) {
            this.types = types;
            this.classes = classes;
            this.instances = instances;
        }

        int made() {
            return nodes;
        }

        int kindOf(int node) {
            return kind[node];
        }

        int firstOf(int node) {
            return first[node];
        }

        int secondOf(int node) {
            return second[node];
        }

        int thirdOf(int node) {
            return third[node];
        }

        int add(int ofKind, int a, int b, int c) {
            if (!isAsTold(ofKind, a, b, c)) {
                return BAD;
            }
            int high = heightOver(ofKind, a, b, c);
            if (high > MOST_HEIGHT) {
                return BAD;
            }
            if (nodes >= MOST_NODES) {
                return FULL;
            }
            kind[nodes] = ofKind;
            first[nodes] = a;
            second[nodes] = b;
            third[nodes] = c;
            height[nodes] = high;
            return nodes++;
        }

        private boolean isAsTold(int ofKind, int a, int b, int c) {
            switch (ofKind) {
                case NUMBER: return true;
                case OWN: return isIndex(a);
                case OF_CONTEXT:
                case OF_SUPER: return isIndex(a) && isIndex(b);
                case AT: return types.has(b) && classes.hasMember(a, c);
                case PLUS:
                case LESS:
                case TIMES:
                case OVER: return has(a) && has(b);
                case IF: return has(a) && has(b) && has(c);
                default: return false;
            }
        }

        private boolean has(int node) {
            return node >= 0 && node < nodes;
        }

        private boolean isIndex(int number) {
            return number >= 0 && number <= GREATEST_INDEX;
        }

        private int heightOver(int ofKind, int a, int b, int c) {
            if (ofKind < PLUS) {
                return 0;
            }
            int greatest = Math.max(height[a], height[b]);
            return 1 + (ofKind == IF ? Math.max(greatest, height[c]) : greatest);
        }

        boolean fitsInstance(int node, int instance) {
            return fits(node, instances.classOf(instance), instance, instances.placesOf(instance));
        }

        boolean fitsClass(int node, int cls) {
            return fits(node, cls, NONE, 1);
        }

        /** Going down the numbers meets each NODE after all those that it stands in, and once. */
        private boolean fits(int node, int cls, int instance, int variables) {
            if (!has(node)) {
                return false;
            }
            for (int n = 0; n < node; n++) {
                standsIn[n] = false;
            }
            standsIn[node] = true;
            for (int n = node; n >= 0; n--) {
                if (standsIn[n]) {
                    if (!namesWhatIsThere(n, cls, instance, variables)) {
                        return false;
                    }
                    markInside(n);
                }
            }
            return true;
        }

        private boolean namesWhatIsThere(int n, int cls, int instance, int variables) {
            int a = first[n];
            int b = second[n];
            switch (kind[n]) {
                case OWN:
                    return classes.hasMember(cls, a);
                case OF_CONTEXT:
                    return instance != NONE && a < instances.contextsOf(instance)
                        && classes.hasMember(instances.contextClassAt(instance, a), b);
                case OF_SUPER:
                    return a < classes.supersOf(cls)
                        && classes.hasMember(classes.superAt(cls, a), b);
                case AT:
                    return types.needsOnlyBelow(b, variables);
                default:
                    return true;
            }
        }

        private void markInside(int n) {
            if (kind[n] >= PLUS) {
                standsIn[first[n]] = true;
                standsIn[second[n]] = true;
            }
            if (kind[n] == IF) {
                standsIn[third[n]] = true;
            }
        }
    }

    /** What became of the MEMBERS of each DICTIONARY. */
    private static final class Values {
        private static final int IDLE = 0, BEING_WORKED = 1, WORKED = 2;
        private static final int CELLS = Dictionaries.MOST_DICTIONARIES * Classes.MOST_MEMBERS;

        private final int[] state = new int[CELLS];
        private final long[] worked = new long[CELLS];
        private final int[] begins = new int[CELLS];

        private int cell(int dictionary, int member) {
            return dictionary * Classes.MOST_MEMBERS + member;
        }

        /** The number of a DICTIONARY that is gone may be given again. */
        void clear(int dictionary) {
            for (int member = 0; member < Classes.MOST_MEMBERS; member++) {
                state[cell(dictionary, member)] = IDLE;
                begins[cell(dictionary, member)] = 0;
            }
        }

        boolean isWorked(int dictionary, int member) {
            return state[cell(dictionary, member)] == WORKED;
        }

        boolean isBeingWorked(int dictionary, int member) {
            return state[cell(dictionary, member)] == BEING_WORKED;
        }

        long workedTo(int dictionary, int member) {
            return worked[cell(dictionary, member)];
        }

        int begunOf(int dictionary, int member) {
            return begins[cell(dictionary, member)];
        }

        void begin(int dictionary, int member) {
            state[cell(dictionary, member)] = BEING_WORKED;
            begins[cell(dictionary, member)]++;
        }

        void end(int dictionary, int member, long result) {
            state[cell(dictionary, member)] = WORKED;
            worked[cell(dictionary, member)] = result;
        }

        void giveUp(int dictionary, int member) {
            state[cell(dictionary, member)] = IDLE;
        }
    }

    /** DICTIONARIES and how they are made. */
    private static final class Dictionaries {
        private static final int MOST_DICTIONARIES = 60;
        private static final int MOST_PARTS = Instances.MOST_CONTEXTS + Classes.MOST_SUPERS;
        /** Each turn of a making begins a PART or leaves a DICTIONARY whose PARTS are there. */
        private static final int MOST_TURNS = MOST_DICTIONARIES * (MOST_PARTS + 1);

        private final Types types;
        private final Classes classes;
        private final Instances instances;
        private final Values values;
        private final int[] cls = new int[MOST_DICTIONARIES];
        private final int[] type = new int[MOST_DICTIONARIES];
        private final int[] instance = new int[MOST_DICTIONARIES];
        private final int[] partsMade = new int[MOST_DICTIONARIES];
        private final int[] parts = new int[MOST_DICTIONARIES * MOST_PARTS];
        private int dictionaries = 0;
        private int lackedClass = NONE;
        private int lackedType = NONE;
        /** For one call alone: DICTIONARIES that are still to be gone through. */
        private final int[] row = new int[MOST_DICTIONARIES];
        private final boolean[] seen = new boolean[MOST_DICTIONARIES];

        Dictionaries(Types types, Classes classes, Instances instances, Values values) {
            this.types = types;
            this.classes = classes;
            this.instances = instances;
            this.values = values;
        }

        int made() {
            return dictionaries;
        }

        boolean has(int dictionary) {
            return dictionary >= 0 && dictionary < dictionaries;
        }

        int classOf(int dictionary) {
            return cls[dictionary];
        }

        int typeAt(int dictionary) {
            return type[dictionary];
        }

        int instanceOf(int dictionary) {
            return instance[dictionary];
        }

        int partsOf(int dictionary) {
            return instances.contextsOf(instance[dictionary]) + classes.supersOf(cls[dictionary]);
        }

        int partAt(int dictionary, int k) {
            return parts[dictionary * MOST_PARTS + k];
        }

        int superPartAt(int dictionary, int k) {
            return partAt(dictionary, instances.contextsOf(instance[dictionary]) + k);
        }

        int lackingClass() {
            return lackedClass;
        }

        int lackingType() {
            return lackedType;
        }

        void takeAway() {
            dictionaries = 0;
        }

        /**
         * The number of the DICTIONARY, or LACKS, or FULL. A PART has a lesser CLASS or a lesser
         * TYPE than what it is a PART of, so none comes back to one that waits in the row.
         */
        int make(int ofClass, int atType) {
            int there = find(ofClass, atType);
            if (there != NONE) {
                return there;
            }
            int before = dictionaries;
            int asked = begin(ofClass, atType);
            int depth = asked < 0 ? 0 : 1;
            row[0] = asked;
            for (int turn = 0; turn < MOST_TURNS && depth > 0; turn++) {
                int waiting = row[depth - 1];
                int k = partsMade[waiting];
                if (k >= partsOf(waiting)) {
                    depth--;
                    continue;
                }
                int part = find(partClass(waiting, k), partType(waiting, k));
                if (part == NONE) {
                    part = begin(partClass(waiting, k), partType(waiting, k));
                    if (part < 0) {
                        dictionaries = before;
                        return part;
                    }
                    row[depth++] = part;
                }
                parts[waiting * MOST_PARTS + k] = part;
                partsMade[waiting]++;
            }
            return asked;
        }

        private int find(int ofClass, int atType) {
            for (int d = 0; d < dictionaries; d++) {
                if (cls[d] == ofClass && type[d] == atType) {
                    return d;
                }
            }
            return NONE;
        }

        private int begin(int ofClass, int atType) {
            int found = instances.find(ofClass, types.constructorOf(atType));
            if (found == NONE) {
                lackedClass = ofClass;
                lackedType = atType;
                return LACKS;
            }
            if (dictionaries >= MOST_DICTIONARIES) {
                return FULL;
            }
            cls[dictionaries] = ofClass;
            type[dictionaries] = atType;
            instance[dictionaries] = found;
            partsMade[dictionaries] = 0;
            values.clear(dictionaries);
            return dictionaries++;
        }

        private int partClass(int dictionary, int k) {
            int contexts = instances.contextsOf(instance[dictionary]);
            return k < contexts
                ? instances.contextClassAt(instance[dictionary], k)
                : classes.superAt(cls[dictionary], k - contexts);
        }

        private int partType(int dictionary, int k) {
            int of = instance[dictionary];
            return k < instances.contextsOf(of)
                ? types.argument(type[dictionary], instances.contextVariableAt(of, k))
                : type[dictionary];
        }

        int hangingOn(int dictionary) {
            for (int d = 0; d < dictionaries; d++) {
                seen[d] = false;
            }
            int found = 0;
            row[found++] = dictionary;
            seen[dictionary] = true;
            for (int i = 0; i < found && i < MOST_DICTIONARIES; i++) {
                for (int k = 0; k < partsOf(row[i]); k++) {
                    int part = partAt(row[i], k);
                    if (!seen[part]) {
                        seen[part] = true;
                        row[found++] = part;
                    }
                }
            }
            return found;
        }
    }

    /** What the latest value() came to; its numbers stay when the DICTIONARIES are taken away. */
    private static final class Report {
        private static final int MISSING = 1, RING = 2, ZERO = 3, LACKING = 4, NO_ROOM = 5;
        private static final int DEEP = 6;

        private int fault = 0;
        private int faultDictionary = NONE;
        private int faultMember = NONE;
        private final int[] stepDictionary = new int[Values.CELLS];
        private final int[] stepMember = new int[Values.CELLS];
        private int steps = 0;

        void start() {
            fault = 0;
            faultDictionary = NONE;
            faultMember = NONE;
            steps = 0;
        }

        void refuse() {
            start();
            fault = BAD;
        }

        void tellFault(int kind, int dictionary, int member) {
            fault = kind;
            faultDictionary = dictionary;
            faultMember = member;
        }

        /** A MEMBER of a DICTIONARY is worked once, so there is room for every STEP. */
        void tellStep(int dictionary, int member) {
            stepDictionary[steps] = dictionary;
            stepMember[steps] = member;
            steps++;
        }

        int fault() {
            return fault;
        }

        int faultDictionary() {
            return faultDictionary;
        }

        int faultMember() {
            return faultMember;
        }

        int stepsTold() {
            return steps;
        }

        int stepDictionary(int k) {
            return k >= 0 && k < steps ? stepDictionary[k] : NONE;
        }

        int stepMember(int k) {
            return k >= 0 && k < steps ? stepMember[k] : NONE;
        }
    }

    /**
     * Works MEMBERS. 40 of them with NODES of HEIGHT 8 would be too many calls within calls, so
     * what is being worked stands in rows: the MEMBERS, and above the floor of each its NODES.
     */
    private static final class Worker {
        private static final int MOST_AT_WORK = 40;
        private static final int MOST_OPEN = MOST_AT_WORK * (Nodes.MOST_HEIGHT + 1);
        /** 240 MEMBERS with 511 NODES of three turns each need fewer than 400,000. */
        private static final int MOST_TURNS = 1_000_000;

        private final Types types;
        private final Nodes nodes;
        private final Instances instances;
        private final Classes classes;
        private final Values values;
        private final Dictionaries dictionaries;
        private final Report report;
        private final int[] workDictionary = new int[MOST_AT_WORK];
        private final int[] workMember = new int[MOST_AT_WORK];
        /** What VARIABLES 0 and 1 are: in a BODY the ARGUMENTS, in a STANDARD 0 is the TYPE itself. */
        private final int[] workZero = new int[MOST_AT_WORK];
        private final int[] workOne = new int[MOST_AT_WORK];
        private final int[] workFloor = new int[MOST_AT_WORK];
        private int atWork = 0;
        private final int[] openNode = new int[MOST_OPEN];
        /** How many turns a NODE has had: after each but its last, one more value has come to it. */
        private final int[] turnsHad = new int[MOST_OPEN];
        private final long[] leftValue = new long[MOST_OPEN];
        private int open = 0;
        /** What was found last: by a NODE that ended, or of a MEMBER that was worked before. */
        private long latest = 0;

        Worker(Types types, Nodes nodes, Instances instances, Classes classes, Values values,
               Dictionaries dictionaries, Report report) {
            this.types = types;
            this.nodes = nodes;
            this.instances = instances;
            this.classes = classes;
            this.values = values;
            this.dictionaries = dictionaries;
            this.report = report;
        }

        long work(int dictionary, int member) {
            report.start();
            need(dictionary, member);
            for (int turn = 0; turn < MOST_TURNS && atWork > 0 && report.fault() == 0; turn++) {
                advance();
            }
            if (report.fault() == 0) {
                return latest;
            }
            giveUpAll();
            return 0;
        }

        /** What was worked to its end before the FAULT is no longer in the rows, so it stays worked. */
        private void giveUpAll() {
            for (int i = 0; i < atWork; i++) {
                values.giveUp(workDictionary[i], workMember[i]);
            }
            atWork = 0;
            open = 0;
        }

        private void need(int dictionary, int member) {
            if (values.isWorked(dictionary, member)) {
                latest = values.workedTo(dictionary, member);
            } else if (values.isBeingWorked(dictionary, member)) {
                report.tellFault(Report.RING, dictionary, member);
            } else if (atWork >= MOST_AT_WORK) {
                report.tellFault(Report.DEEP, dictionary, member);
            } else {
                beginMember(dictionary, member);
            }
        }

        private void beginMember(int dictionary, int member) {
            int body = instances.bodyOf(dictionaries.instanceOf(dictionary), member);
            int standard = classes.standardOf(dictionaries.classOf(dictionary), member);
            int type = dictionaries.typeAt(dictionary);
            if (body == NONE && standard == NONE) {
                report.tellFault(Report.MISSING, dictionary, member);
                return;
            }
            values.begin(dictionary, member);
            workDictionary[atWork] = dictionary;
            workMember[atWork] = member;
            workZero[atWork] = body != NONE ? types.argument(type, 0) : type;
            workOne[atWork] = body != NONE ? types.argument(type, 1) : NONE;
            workFloor[atWork] = open;
            atWork++;
            openUp(body != NONE ? body : standard);
        }

        /** The limits of MEMBERS at work and of HEIGHT leave room for every NODE that is opened. */
        private void openUp(int node) {
            openNode[open] = node;
            turnsHad[open] = 0;
            open++;
        }

        private void advance() {
            int node = openNode[open - 1];
            int turns = turnsHad[open - 1];
            turnsHad[open - 1]++;
            int kind = nodes.kindOf(node);
            if (kind == Nodes.NUMBER) {
                endNode(nodes.firstOf(node));
            } else if (kind == Nodes.IF) {
                advanceIf(node, turns);
            } else if (kind >= Nodes.PLUS) {
                advanceSum(node, turns);
            } else if (turns == 0) {
                needNamed(dictionaryNamed(node), memberNamed(node));
            } else {
                endNode(latest);
            }
        }

        private void advanceIf(int node, int turns) {
            if (turns == 0) {
                openUp(nodes.firstOf(node));
            } else if (turns == 1) {
                openUp(latest != 0 ? nodes.secondOf(node) : nodes.thirdOf(node));
            } else {
                endNode(latest);
            }
        }

        private void advanceSum(int node, int turns) {
            if (turns == 0) {
                openUp(nodes.firstOf(node));
            } else if (turns == 1) {
                leftValue[open - 1] = latest;
                openUp(nodes.secondOf(node));
            } else {
                endSum(nodes.kindOf(node), leftValue[open - 1], latest);
            }
        }

        private void endSum(int kind, long left, long right) {
            if (kind == Nodes.PLUS) {
                endNode(left + right);
            } else if (kind == Nodes.LESS) {
                endNode(left - right);
            } else if (kind == Nodes.TIMES) {
                endNode(left * right);
            } else if (right != 0) {
                endNode(left / right);
            } else {
                failHere(Report.ZERO);
            }
        }

        private void endNode(long result) {
            latest = result;
            open--;
            if (open == workFloor[atWork - 1]) {
                atWork--;
                values.end(workDictionary[atWork], workMember[atWork], result);
                report.tellStep(workDictionary[atWork], workMember[atWork]);
            }
        }

        /** Of a NODE that names a MEMBER: the DICTIONARY, or LACKS or FULL if AT cannot have it. */
        private int dictionaryNamed(int node) {
            int at = atWork - 1;
            int dictionary = workDictionary[at];
            int a = nodes.firstOf(node);
            switch (nodes.kindOf(node)) {
                case Nodes.OWN: return dictionary;
                case Nodes.OF_CONTEXT: return dictionaries.partAt(dictionary, a);
                case Nodes.OF_SUPER: return dictionaries.superPartAt(dictionary, a);
                default:
                    int type = types.putIn(nodes.secondOf(node), workZero[at], workOne[at]);
                    return type == FULL ? FULL : dictionaries.make(a, type);
            }
        }

        private int memberNamed(int node) {
            switch (nodes.kindOf(node)) {
                case Nodes.OWN: return nodes.firstOf(node);
                case Nodes.AT: return nodes.thirdOf(node);
                default: return nodes.secondOf(node);
            }
        }

        private void needNamed(int dictionary, int member) {
            if (dictionary == FULL) {
                failHere(Report.NO_ROOM);
            } else if (dictionary == LACKS) {
                failHere(Report.LACKING);
            } else {
                need(dictionary, member);
            }
        }

        private void failHere(int fault) {
            report.tellFault(fault, workDictionary[atWork - 1], workMember[atWork - 1]);
        }
    }
}
