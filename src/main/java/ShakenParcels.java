import java.util.Arrays;

/** Parcels under a tree, and what trials of them tell of what is in which. */
public final class ShakenParcels {
    public static final int BAD = -1, NO = -2, FULL = -3, NONE = -4;

    private static final String FIRST_TEXT = "t5,0,3,4;t9,1,3,2;t5,2,4,1;t7,3,2,3;p1,0,1;p2,1,2;i0,2;i1,0;i1,3;g2;d5;n0,1,20;n2,3,5;";

    private static final int MOST_LETTERS = 200;
    private static final int MOST_NUMBERS = 4;
    private static final int MOST_THINGS = 8;
    private static final int MOST_PARCELS = 4;
    private static final int MOST_ANSWERS = 12;
    private static final int MOST_UNDONE = 8;
    private static final int MOST_KEPT = 2;
    private static final int MOST_TRIALS = 20;

    private static final int SORTS = 4;
    private static final int WEIGH = 0;
    private static final int TIP = 1;
    private static final int SHAKE = 2;

    private static final int SOFT = 0;
    private static final int SLIDING = 1;
    private static final int ROLLING = 2;

    /** Sets of things are bits of a number, and a world is the sets of its parcels side by side in one int. */
    private static final int SETS = 1 << MOST_THINGS;
    private static final int WHOLE_SET = SETS - 1;

    /** No parcel with as many things as told answers more than 58, a false weight in it too, so 64 tells all answers apart. */
    private static final int REPLIES = 64;

    /** Far above the steps that any two longs need. */
    private static final int MOST_DIVISIONS = 200;

    private final Text text = new Text();
    private Tree tree = new Tree();
    /** What is read comes here first, so that a text that can not be laid changes nothing. */
    private Tree spare = new Tree();
    private final Worlds all = new Worlds();
    private final Worlds remaining = new Worlds();
    private final Worlds scratch = new Worlds();
    private final Finder finder = new Finder();
    private final Scene now = new Scene();
    private final Scenes undoable = new Scenes(MOST_UNDONE);
    private final Scenes kept = new Scenes(MOST_KEPT);
    private final long[] chanceBySet = new long[SETS];
    /** Whether the worlds that remain have to be found anew. */
    private boolean stale = true;
    private int judged = NONE;

    public ShakenParcels() {
        for (int i = 0; i < FIRST_TEXT.length(); i++) {
            text.add(FIRST_TEXT.charAt(i));
        }
        layText();
        text.clear();
    }

    // ---- trees

    public int write(int letter) {
        if (letter < 32 || letter > 126) {
            return BAD;
        }
        return text.add(letter) ? text.length : FULL;
    }

    public int wipe() {
        int length = text.length;
        text.clear();
        return length;
    }

    public int fault() {
        return text.readInto(spare);
    }

    public int lay() {
        return layText() ? all.size : NO;
    }

    public int thing(int t, int what) {
        if (!isThing(t)) {
            return BAD;
        }
        switch (what) {
            case 0:
                return at(tree.things.weight, t);
            case 1:
                return at(tree.things.kind, t);
            case 2:
                return at(tree.things.worth, t);
            case 3:
                return at(tree.things.chance, t);
            case 4:
                return parcelWith(t);
            default:
                return BAD;
        }
    }

    public int parcel(int p, int what) {
        if (!isParcel(p)) {
            return BAD;
        }
        switch (what) {
            case 0:
                return at(tree.box, p);
            case 1:
                return at(tree.child, p);
            case 2:
                return at(tree.room, p);
            case 3:
                return inside(now.truth, p);
            case 4:
                return at(now.hidden, p);
            default:
                return BAD;
        }
    }

    public int world(int w, int p) {
        if (w < 0 || !isParcel(p)) {
            return BAD;
        }
        return w < all.size ? inside(all.take(w), p) : NONE;
    }

    public int answer(int p, int sort, int set) {
        if (!isParcel(p) || !isSort(sort) || !isBelow(set, 1 << tree.things.amount)) {
            return BAD;
        }
        return tree.reply(p, sort, set, 0);
    }

    // ---- trials

    public int attempt(int p, int sort) {
        if (!isParcel(p) || !isSort(sort)) {
            return BAD;
        }
        if (now.isFull()) {
            return FULL;
        }
        int reply = tree.reply(p, sort, inside(now.truth, p), at(now.hidden, p));
        note(p, sort, reply);
        return reply;
    }

    public int hear(int p, int sort, int answer) {
        if (!isParcel(p) || !isSort(sort) || !isBelow(answer, 100)) {
            return BAD;
        }
        if (now.isFull()) {
            return FULL;
        }
        note(p, sort, answer);
        return now.answers;
    }

    public int change(int p, int q) {
        if (!isParcel(p) || !isParcel(q) || p == q) {
            return BAD;
        }
        int changed = swapped(now.truth, p, q);
        if (at(tree.room, p) != at(tree.room, q) || !tree.isWorld(changed)) {
            return NO;
        }
        undoable.push(now);
        now.truth = changed;
        return inside(changed, p);
    }

    public int hide(int p, int weight) {
        if (!isParcel(p) || !isBelow(weight, 10)) {
            return BAD;
        }
        undoable.push(now);
        int before = at(now.hidden, p);
        put(now.hidden, p, weight);
        return before;
    }

    public int undo() {
        if (!undoable.popInto(now)) {
            return NO;
        }
        stale = true;
        return undoable.size;
    }

    // ---- what may be

    public int left() {
        return findRemaining().size;
    }

    public long likely(int p, int t, int part) {
        if (!isParcel(p) || !isThing(t) || !isBelow(part, 2)) {
            return BAD;
        }
        Worlds list = findRemaining();
        if (list.size == 0) {
            return NONE;
        }
        long with = 0;
        long together = 0;
        for (int i = 0; i < list.size; i++) {
            int world = list.take(i);
            long chance = tree.chanceOf(world);
            together += chance;
            if ((inside(world, p) & (1 << t)) != 0) {
                with += chance;
            }
        }
        return inLowestTerms(with, together, part);
    }

    public int sure(int p, boolean never) {
        if (!isParcel(p)) {
            return BAD;
        }
        Worlds list = findRemaining();
        int bits = (1 << tree.things.amount) - 1;
        for (int i = 0; i < list.size; i++) {
            int set = inside(list.take(i), p);
            bits &= never ? ~set : set;
        }
        return bits;
    }

    public int judge() {
        findRemaining();
        return judged;
    }

    public long guess(int p, int what) {
        if (!isParcel(p) || !isBelow(what, 3)) {
            return BAD;
        }
        Worlds list = findRemaining();
        if (list.size == 0) {
            return NONE;
        }
        long together = sumChances(list, p);
        int best = 0;
        for (int set = 1; set < chanceBySet.length; set++) {
            if (chanceBySet[set] > chanceBySet[best]) {
                best = set;
            }
        }
        return what == 0 ? best : inLowestTerms(chanceBySet[best], together, what - 1);
    }

    // ---- what to try

    public int next(int what) {
        if (!isBelow(what, 2)) {
            return BAD;
        }
        Worlds list = findRemaining();
        if (list.size == 0) {
            return NONE;
        }
        finder.choose(tree, list);
        return what == 0 ? finder.trial : finder.worst;
    }

    public int few(int p) {
        if (!isParcel(p)) {
            return BAD;
        }
        return finder.fewest(tree, findRemaining(), scratch, p);
    }

    public int solved(int what) {
        if (!isBelow(what, 2)) {
            return BAD;
        }
        return solve(findRemaining(), now.truth, what);
    }

    public long risk(int part) {
        if (!isBelow(part, 2)) {
            return BAD;
        }
        long unseen = 1;
        long together = 1;
        for (int i = 0; i < now.answers; i++) {
            unseen *= 10 - at(tree.noticed, sortOf(at(now.trials, i)));
            together *= 10;
        }
        return inLowestTerms(together - unseen, together, part);
    }

    public int seconds() {
        int sum = 0;
        for (int i = 0; i < now.answers; i++) {
            sum += at(tree.lasting, sortOf(at(now.trials, i)));
        }
        return sum;
    }

    // ---- who misleads, who gets what

    public int misled(int p, int what) {
        if (!isParcel(p) || !isBelow(what, 2)) {
            return BAD;
        }
        finder.countSets(findRemaining(), p);
        finder.countReplies(tree, p, WEIGH);
        int best = 0;
        int most = 0;
        for (int weight = 0; weight < 10; weight++) {
            int fitting = at(finder.byReply, tree.reply(p, WEIGH, inside(now.truth, p), weight));
            if (fitting > most) {
                best = weight;
                most = fitting;
            }
        }
        return what == 0 ? best : most;
    }

    public int more(int what) {
        if (!isBelow(what, 3)) {
            return BAD;
        }
        Worlds list = findRemaining();
        int found = 0;
        for (int i = 0; i < list.size; i++) {
            int world = list.take(i);
            int order = Integer.compare(tree.worthFor(world, 1), tree.worthFor(world, 0));
            if (order == what - 1) {
                found++;
            }
        }
        return found;
    }

    public int heavier(int p, int q) {
        if (!isParcel(p) || !isParcel(q) || p == q) {
            return BAD;
        }
        Worlds list = findRemaining();
        int found = 0;
        for (int i = 0; i < list.size; i++) {
            int world = list.take(i);
            if (tree.weightWithBox(p, inside(world, p)) > tree.weightWithBox(q, inside(world, q))) {
                found++;
            }
        }
        return found;
    }

    public int morning(int z, int what) {
        if (!isBelow(z, 10000) || !isBelow(what, 2)) {
            return BAD;
        }
        if (all.size == 0) {
            return NONE;
        }
        long x = 7919L * z + 1;
        int draw = (int) (x * x % 65521);
        return solve(all, all.take(draw % all.size), what);
    }

    // ---- kept

    public int keep() {
        if (kept.isFull()) {
            return FULL;
        }
        kept.push(now);
        return kept.size;
    }

    public int back() {
        if (!kept.popInto(now)) {
            return NO;
        }
        undoable.clear();
        stale = true;
        return kept.size;
    }

    public int count(int what) {
        switch (what) {
            case 0:
                return tree.things.amount;
            case 1:
                return tree.parcels;
            case 2:
                return all.size;
            case 3:
                return now.answers;
            case 4:
                return undoable.size;
            case 5:
                return kept.size;
            case 6:
                return text.length;
            default:
                return BAD;
        }
    }

    // ---- what the calls share

    private boolean layText() {
        if (text.readInto(spare) != NONE || spare.parcels == 0 || !spare.isWorld(spare.told)) {
            return false;
        }
        Tree before = tree;
        tree = spare;
        spare = before;
        int most = tree.mostWorlds();
        all.makeRoom(most);
        remaining.makeRoom(most);
        scratch.makeRoom(most);
        tree.listWorlds(all);
        now.begin(tree.told);
        undoable.clear();
        kept.clear();
        stale = true;
        return true;
    }

    private boolean isThing(int t) {
        return isBelow(t, tree.things.amount);
    }

    private boolean isParcel(int p) {
        return isBelow(p, tree.parcels);
    }

    private int parcelWith(int t) {
        for (int p = 0; p < tree.parcels; p++) {
            if ((inside(now.truth, p) & (1 << t)) != 0) {
                return p;
            }
        }
        return NONE;
    }

    private void note(int p, int sort, int reply) {
        undoable.push(now);
        now.add(trialOf(p, sort), reply);
        stale = true;
    }

    private Worlds findRemaining() {
        if (stale) {
            remaining.copy(all);
            judged = NONE;
            for (int i = 0; i < now.answers; i++) {
                int trial = at(now.trials, i);
                remaining.narrow(tree, parcelOf(trial), sortOf(trial), at(now.replies, i));
                if (remaining.size == 0 && judged == NONE) {
                    judged = i;
                }
            }
            stale = false;
        }
        return remaining;
    }

    private long sumChances(Worlds list, int p) {
        Arrays.fill(chanceBySet, 0);
        long together = 0;
        for (int i = 0; i < list.size; i++) {
            int world = list.take(i);
            long chance = tree.chanceOf(world);
            int set = inside(world, p);
            if (set < chanceBySet.length) {
                chanceBySet[set] += chance;
            }
            together += chance;
        }
        return together;
    }

    private int solve(Worlds from, int truth, int what) {
        scratch.copy(from);
        if (!finder.solves(tree, scratch, truth)) {
            return NONE;
        }
        return what == 0 ? finder.trials : finder.spent;
    }

    // ---- small helps

    private static boolean isSort(int sort) {
        return isBelow(sort, SORTS);
    }

    private static boolean isBelow(int number, int bound) {
        return number >= 0 && number < bound;
    }

    private static boolean isWithin(int number, int low, int high) {
        return number >= low && number <= high;
    }

    private static int at(int[] row, int i) {
        return i >= 0 && i < row.length ? row[i] : 0;
    }

    private static void put(int[] row, int i, int number) {
        if (i >= 0 && i < row.length) {
            row[i] = number;
        }
    }

    private static void raise(int[] row, int i, int by) {
        if (i >= 0 && i < row.length) {
            row[i] += by;
        }
    }

    private static int inside(int world, int p) {
        return (world >>> (MOST_THINGS * p)) & WHOLE_SET;
    }

    private static int swapped(int world, int p, int q) {
        int unlike = inside(world, p) ^ inside(world, q);
        return world ^ (unlike << (MOST_THINGS * p)) ^ (unlike << (MOST_THINGS * q));
    }

    private static int trialOf(int p, int sort) {
        return SORTS * p + sort;
    }

    private static int parcelOf(int trial) {
        return trial / SORTS;
    }

    private static int sortOf(int trial) {
        return trial % SORTS;
    }

    private static long inLowestTerms(long above, long below, int part) {
        long a = above;
        long b = below;
        for (int i = 0; i < MOST_DIVISIONS && b != 0; i++) {
            long rest = a % b;
            a = b;
            b = rest;
        }
        long number = part == 0 ? above : below;
        return a == 0 ? number : number / a;
    }

    /** The letters that are written, and how they are read. */
    private static final class Text {
        private final char[] letters = new char[MOST_LETTERS];
        private int length;
        private final int[] numbers = new int[MOST_NUMBERS];
        private int amount;

        boolean add(int letter) {
            if (length >= letters.length) {
                return false;
            }
            letters[length] = (char) letter;
            length++;
            return true;
        }

        void clear() {
            length = 0;
        }

        /** Answers the place of the first item that is at fault, or NONE. */
        int readInto(Tree tree) {
            tree.clear();
            int place = 0;
            for (int i = 0; i < MOST_LETTERS && place < length; i++) {
                int end = readNumbers(place + 1);
                if (end == NONE || !tree.takes(letterAt(place), numbers, amount)) {
                    return place;
                }
                place = end;
            }
            return NONE;
        }

        /** Answers the place behind the item, or NONE if there is none that is well formed. */
        private int readNumbers(int start) {
            int place = start;
            for (int i = 0; i < MOST_NUMBERS; i++) {
                int figures = figuresAt(place);
                if (figures == 0) {
                    return NONE;
                }
                put(numbers, i, numberAt(place, figures));
                amount = i + 1;
                int mark = letterAt(place + figures);
                place += figures + 1;
                if (mark == ';') {
                    return place;
                }
                if (mark != ',') {
                    return NONE;
                }
            }
            return NONE;
        }

        private int figuresAt(int place) {
            if (!isFigure(letterAt(place))) {
                return 0;
            }
            return isFigure(letterAt(place + 1)) ? 2 : 1;
        }

        private int numberAt(int place, int figures) {
            int first = letterAt(place) - '0';
            return figures == 1 ? first : 10 * first + letterAt(place + 1) - '0';
        }

        private int letterAt(int place) {
            return place >= 0 && place < length && place < letters.length ? letters[place] : 0;
        }

        private static boolean isFigure(int letter) {
            return isWithin(letter, '0', '9');
        }
    }

    /** The things of the list, and what each set of them comes to together. */
    private static final class Things {
        private final int[] weight = new int[MOST_THINGS];
        private final int[] kind = new int[MOST_THINGS];
        private final int[] worth = new int[MOST_THINGS];
        private final int[] chance = new int[MOST_THINGS];
        private int amount;
        private final int[] weightOfSet = new int[SETS];
        private final int[] worthOfSet = new int[SETS];
        private final int[] chanceOfSet = new int[SETS];
        private int sliding;
        private int rolling;
        private int firm;

        void clear() {
            amount = 0;
            sliding = 0;
            rolling = 0;
            firm = 0;
            put(chanceOfSet, 0, 1);
        }

        /** Takes a thing by its four numbers: weight, kind, worth, chance. */
        void add(int[] numbers) {
            if (amount >= MOST_THINGS) {
                return;
            }
            put(weight, amount, at(numbers, 0));
            put(kind, amount, at(numbers, 1));
            put(worth, amount, at(numbers, 2));
            put(chance, amount, at(numbers, 3));
            int bit = 1 << amount;
            sortByKind(bit, at(numbers, 1));
            for (int set = 0; set < bit; set++) {
                put(weightOfSet, set | bit, at(weightOfSet, set) + at(numbers, 0));
                put(worthOfSet, set | bit, at(worthOfSet, set) + at(numbers, 2));
                put(chanceOfSet, set | bit, at(chanceOfSet, set) * at(numbers, 3));
            }
            amount++;
        }

        private void sortByKind(int bit, int ofKind) {
            if (ofKind == SLIDING) {
                sliding |= bit;
            }
            if (ofKind == ROLLING) {
                rolling |= bit;
            }
            if (ofKind != SOFT) {
                firm |= bit;
            }
        }

        int tipped(int set) {
            return ((set & rolling) != 0 ? 2 : 0) + ((set & sliding) != 0 ? 1 : 0);
        }

        int shaken(int set) {
            return Integer.bitCount(set & firm);
        }

        int pressed(int set) {
            return (set & firm) == 0 ? 1 : 0;
        }
    }

    /** What a text tells. */
    private static final class Tree {
        private final Things things = new Things();
        private final int[] box = new int[MOST_PARCELS];
        private final int[] child = new int[MOST_PARCELS];
        private final int[] room = new int[MOST_PARCELS];
        private int parcels;
        private int told;
        private int scale = 1;
        private int apart;
        private final int[] noticed = new int[SORTS];
        private final int[] lasting = new int[SORTS];

        void clear() {
            things.clear();
            parcels = 0;
            told = 0;
            scale = 1;
            apart = 40;
            Arrays.fill(noticed, 0);
            Arrays.fill(lasting, 10);
        }

        /** Takes an item, or answers that it is at fault. */
        boolean takes(int letter, int[] numbers, int amount) {
            switch (letter) {
                case 't':
                    return amount == 4 && takesThing(numbers);
                case 'p':
                    return amount == 3 && takesParcel(numbers);
                case 'i':
                    return amount == 2 && takesTruth(at(numbers, 0), at(numbers, 1));
                case 'g':
                    return amount == 1 && takesScale(at(numbers, 0));
                case 'd':
                    return amount == 1 && takesApart(at(numbers, 0));
                case 'n':
                    return amount == 3 && takesSort(at(numbers, 0), at(numbers, 1), at(numbers, 2));
                default:
                    return false;
            }
        }

        private boolean takesThing(int[] numbers) {
            if (things.amount >= MOST_THINGS || !isWithin(at(numbers, 0), 1, 20) || !isWithin(at(numbers, 1), 0, 3)
                    || !isWithin(at(numbers, 2), 0, 9) || !isWithin(at(numbers, 3), 1, 9)) {
                return false;
            }
            things.add(numbers);
            return true;
        }

        private boolean takesParcel(int[] numbers) {
            if (parcels >= MOST_PARCELS || !isWithin(at(numbers, 0), 0, 9) || !isWithin(at(numbers, 1), 0, 1)
                    || !isWithin(at(numbers, 2), 1, 2)) {
                return false;
            }
            put(box, parcels, at(numbers, 0));
            put(child, parcels, at(numbers, 1));
            put(room, parcels, at(numbers, 2));
            parcels++;
            return true;
        }

        private boolean takesTruth(int p, int t) {
            if (!isBelow(p, parcels) || !isBelow(t, things.amount)) {
                return false;
            }
            told |= 1 << (MOST_THINGS * p + t);
            return true;
        }

        private boolean takesScale(int steps) {
            if (!isWithin(steps, 1, 9)) {
                return false;
            }
            scale = steps;
            return true;
        }

        private boolean takesApart(int most) {
            if (!isWithin(most, 0, 40)) {
                return false;
            }
            apart = most;
            return true;
        }

        private boolean takesSort(int sort, int tenths, int span) {
            if (!isSort(sort) || !isWithin(tenths, 0, 9) || !isWithin(span, 1, 60)) {
                return false;
            }
            put(noticed, sort, tenths);
            put(lasting, sort, span);
            return true;
        }

        boolean isWorld(int world) {
            int used = 0;
            for (int p = 0; p < parcels; p++) {
                int set = inside(world, p);
                if (Integer.bitCount(set) != at(room, p) || (set & used) != 0) {
                    return false;
                }
                used |= set;
            }
            return isFair(world);
        }

        private boolean isFair(int world) {
            return !hasParcels(0) || !hasParcels(1) || Math.abs(worthFor(world, 0) - worthFor(world, 1)) <= apart;
        }

        private boolean hasParcels(int of) {
            for (int p = 0; p < parcels; p++) {
                if (at(child, p) == of) {
                    return true;
                }
            }
            return false;
        }

        int worthFor(int world, int of) {
            int set = 0;
            for (int p = 0; p < parcels; p++) {
                if (at(child, p) == of) {
                    set |= inside(world, p);
                }
            }
            return at(things.worthOfSet, set);
        }

        int chanceOf(int world) {
            int set = 0;
            for (int p = 0; p < parcels; p++) {
                set |= inside(world, p);
            }
            return at(things.chanceOfSet, set);
        }

        int weightWithBox(int p, int set) {
            return at(box, p) + at(things.weightOfSet, set);
        }

        int reply(int p, int sort, int set, int hidden) {
            switch (sort) {
                case WEIGH:
                    return inSteps(at(box, p) + at(things.weightOfSet, set) + hidden);
                case TIP:
                    return things.tipped(set);
                case SHAKE:
                    return things.shaken(set);
                default:
                    return things.pressed(set);
            }
        }

        private int inSteps(int weight) {
            return scale > 0 ? weight / scale : weight;
        }

        int trials() {
            return SORTS * parcels;
        }

        /** How many worlds there were, were all of them fair. */
        int mostWorlds() {
            int most = 1;
            int free = things.amount;
            for (int p = 0; p < parcels; p++) {
                most *= at(room, p) == 1 ? free : free * (free - 1) / 2;
                free -= at(room, p);
            }
            return most;
        }

        void listWorlds(Worlds list) {
            list.clear();
            addWorlds(this, list, 0, 0, 0);
        }

        /** Going by the higher thing, then by the lower one, meets the sets in the order of their bits. */
        private static void addWorlds(Tree tree, Worlds list, int p, int used, int world) {
            if (p >= tree.parcels || p >= MOST_PARCELS) {
                if (tree.isFair(world)) {
                    list.add(world);
                }
                return;
            }
            for (int high = 0; high < tree.things.amount; high++) {
                for (int low = 0; low <= high; low++) {
                    int set = (1 << high) | (1 << low);
                    if ((set & used) == 0 && Integer.bitCount(set) == at(tree.room, p)) {
                        addWorlds(tree, list, p + 1, used | set, world | (set << (MOST_THINGS * p)));
                    }
                }
            }
        }
    }

    /** Worlds one behind the other. */
    private static final class Worlds {
        private int[] rows = new int[0];
        private int size;

        /** The rows only ever grow, so that laying again and again makes few of them. */
        void makeRoom(int most) {
            if (most > rows.length) {
                rows = new int[most];
                size = 0;
            }
        }

        void clear() {
            size = 0;
        }

        void add(int world) {
            if (size < rows.length) {
                rows[size] = world;
                size++;
            }
        }

        int take(int i) {
            return at(rows, i);
        }

        void set(int i, int world) {
            put(rows, i, world);
        }

        void copy(Worlds other) {
            size = Math.min(other.size, Math.min(other.rows.length, rows.length));
            System.arraycopy(other.rows, 0, rows, 0, size);
        }

        boolean holds(int world) {
            for (int i = 0; i < size; i++) {
                if (take(i) == world) {
                    return true;
                }
            }
            return false;
        }

        /** Keeps those by which the trial is answered so. */
        void narrow(Tree tree, int p, int sort, int reply) {
            int before = size;
            clear();
            for (int i = 0; i < before; i++) {
                int world = take(i);
                if (tree.reply(p, sort, inside(world, p), 0) == reply) {
                    add(world);
                }
            }
        }
    }

    /** What trials change: the truth, false weights, answers. */
    private static final class Scene {
        private int truth;
        private final int[] hidden = new int[MOST_PARCELS];
        private final int[] trials = new int[MOST_ANSWERS];
        private final int[] replies = new int[MOST_ANSWERS];
        private int answers;

        void begin(int told) {
            truth = told;
            Arrays.fill(hidden, 0);
            answers = 0;
        }

        void copy(Scene other) {
            truth = other.truth;
            for (int i = 0; i < MOST_PARCELS; i++) {
                put(hidden, i, at(other.hidden, i));
            }
            for (int i = 0; i < MOST_ANSWERS; i++) {
                put(trials, i, at(other.trials, i));
                put(replies, i, at(other.replies, i));
            }
            answers = other.answers;
        }

        boolean isFull() {
            return answers >= MOST_ANSWERS;
        }

        void add(int trial, int reply) {
            if (!isFull()) {
                put(trials, answers, trial);
                put(replies, answers, reply);
                answers++;
            }
        }
    }

    /** Scenes laid on each other; where there is no more room, the lowest one goes. */
    private static final class Scenes {
        private final Scene[] row;
        private int size;

        Scenes(int most) {
            row = new Scene[Math.max(0, most)];
            for (int i = 0; i < row.length; i++) {
                row[i] = new Scene();
            }
        }

        void clear() {
            size = 0;
        }

        boolean isFull() {
            return size >= row.length;
        }

        void push(Scene scene) {
            if (isFull()) {
                dropLowest();
            }
            if (size < row.length && row[size] != null) {
                row[size].copy(scene);
                size++;
            }
        }

        private void dropLowest() {
            if (row.length == 0 || size == 0) {
                return;
            }
            Scene lowest = row[0];
            for (int i = 1; i < row.length; i++) {
                row[i - 1] = row[i];
            }
            row[row.length - 1] = lowest;
            size--;
        }

        boolean popInto(Scene scene) {
            if (size <= 0 || size > row.length || row[size - 1] == null) {
                return false;
            }
            size--;
            scene.copy(row[size]);
            return true;
        }
    }

    /** Finds the trials that tell most; what it found stands in its fields. */
    private static final class Finder {
        private int trial;
        private int worst;
        private int trials;
        private int spent;
        private final int[] bySet = new int[SETS];
        private final int[] byReply = new int[REPLIES];
        /** Where the worlds of each answer begin; one more, where the last ones end. */
        private final int[] starts = new int[REPLIES + 1];
        private final int[] known = new int[REPLIES];
        private final int[] replyOfSet = new int[SETS];

        /** The first trial that leaves fewest worlds at the worst. */
        void choose(Tree tree, Worlds list) {
            trial = NONE;
            worst = list.size + 1;
            for (int p = 0; p < tree.parcels; p++) {
                countSets(list, p);
                for (int sort = 0; sort < SORTS; sort++) {
                    int most = countReplies(tree, p, sort);
                    if (most < worst) {
                        trial = trialOf(p, sort);
                        worst = most;
                    }
                }
            }
        }

        void countSets(Worlds list, int p) {
            Arrays.fill(bySet, 0);
            for (int i = 0; i < list.size; i++) {
                raise(bySet, inside(list.take(i), p), 1);
            }
        }

        /** How the worlds whose sets were counted answer; answers how many of them do alike at the most. */
        int countReplies(Tree tree, int p, int sort) {
            Arrays.fill(byReply, 0);
            int most = 0;
            for (int set = 1; set < bySet.length; set++) {
                if (bySet[set] > 0) {
                    int reply = tree.reply(p, sort, set, 0);
                    raise(byReply, reply, bySet[set]);
                    most = Math.max(most, at(byReply, reply));
                }
            }
            return most;
        }

        /** Narrows the list to the truth by the best trials, if these can. */
        boolean solves(Tree tree, Worlds list, int truth) {
            trials = 0;
            spent = 0;
            if (!list.holds(truth)) {
                return false;
            }
            for (int i = 0; i < MOST_TRIALS && list.size > 1; i++) {
                choose(tree, list);
                if (worst >= list.size) {
                    return false;
                }
                int p = parcelOf(trial);
                int sort = sortOf(trial);
                list.narrow(tree, p, sort, tree.reply(p, sort, inside(truth, p), 0));
                spent += at(tree.lasting, sort);
                trials++;
            }
            return list.size == 1;
        }

        /** How many trials (2 at most) are enough to know what is in a parcel, or NONE. */
        int fewest(Tree tree, Worlds list, Worlds grouped, int p) {
            if (list.size == 0) {
                return NONE;
            }
            if (isKnown(list, p)) {
                return 0;
            }
            if (someTrialTells(tree, list, p, 0, list.size)) {
                return 1;
            }
            for (int first = 0; first < tree.trials(); first++) {
                group(tree, list, grouped, first);
                if (eachGroupIsTold(tree, grouped, p)) {
                    return 2;
                }
            }
            return NONE;
        }

        private boolean isKnown(Worlds list, int p) {
            for (int i = 1; i < list.size; i++) {
                if (inside(list.take(i), p) != inside(list.take(0), p)) {
                    return false;
                }
            }
            return true;
        }

        private boolean someTrialTells(Tree tree, Worlds list, int p, int from, int to) {
            for (int second = 0; second < tree.trials(); second++) {
                if (tells(tree, list, second, p, from, to)) {
                    return true;
                }
            }
            return false;
        }

        /** Whether each answer of the trial leaves one set for the parcel; no set of a parcel is 0. */
        private boolean tells(Tree tree, Worlds list, int by, int p, int from, int to) {
            Arrays.fill(known, 0);
            int tried = parcelOf(by);
            int sort = sortOf(by);
            for (int i = from; i < to; i++) {
                int world = list.take(i);
                int reply = tree.reply(tried, sort, inside(world, tried), 0);
                int set = inside(world, p);
                int before = at(known, reply);
                if (before != 0 && before != set) {
                    return false;
                }
                put(known, reply, set);
            }
            return true;
        }

        /** Puts the worlds in order by the answer of a trial. */
        private void group(Tree tree, Worlds list, Worlds grouped, int by) {
            int p = parcelOf(by);
            listReplies(tree, p, sortOf(by));
            Arrays.fill(starts, 0);
            for (int i = 0; i < list.size; i++) {
                raise(starts, at(replyOfSet, inside(list.take(i), p)), 1);
            }
            for (int reply = 1; reply < starts.length; reply++) {
                starts[reply] += starts[reply - 1];
            }
            // each of its places is written over, but it has to be as long
            grouped.copy(list);
            for (int i = 0; i < list.size; i++) {
                int world = list.take(i);
                int reply = at(replyOfSet, inside(world, p));
                raise(starts, reply, -1);
                grouped.set(at(starts, reply), world);
            }
        }

        /** There are far fewer sets than worlds, so each set is asked once. */
        private void listReplies(Tree tree, int p, int sort) {
            for (int set = 1; set < 1 << tree.things.amount; set++) {
                put(replyOfSet, set, tree.reply(p, sort, set, 0));
            }
        }

        private boolean eachGroupIsTold(Tree tree, Worlds grouped, int p) {
            for (int reply = 0; reply < REPLIES; reply++) {
                int from = at(starts, reply);
                int to = at(starts, reply + 1);
                if (from < to && !someTrialTells(tree, grouped, p, from, to)) {
                    return false;
                }
            }
            return true;
        }
    }
}
