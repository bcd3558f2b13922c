import java.util.ArrayList;
import java.util.List;

/** How sentences of the document could be read wrongly: which edge has to notice, what stands in the class, what would stand there. */
final class Breaks {
    /** The promise of the edge, a part of its name. */
    record Break(int promise, String edge, String from, String to) {
        @Override
        public String toString() {
            return "promise " + promise + ": " + edge;
        }
    }

    private final List<Break> list = new ArrayList<>();

    private Breaks() { }

    static List<Break> all() {
        Breaks breaks = new Breaks();
        breaks.text();
        breaks.form();
        breaks.items();
        breaks.laid();
        breaks.tree();
        breaks.answers();
        breaks.trials();
        breaks.changes();
        breaks.undone();
        breaks.mayBe();
        breaks.guesses();
        breaks.toTry();
        breaks.whoGetsWhat();
        breaks.kept();
        return breaks.list;
    }

    private void broken(int promise, String edge, String from, String to) {
        list.add(new Break(promise, edge, from, to));
    }

    private void text() {
        broken(1, "each object by itself", "private final Scene now = ", "private static final Scene now = ");
        broken(1, "no text, no answers", "        text.clear();\n    }\n\n    // ---- trees", "    }\n\n    // ---- trees");
        broken(2, "only when cut short", "if (letter < 32 || letter > 126) {", "if ((char) letter < 32 || (char) letter > 126) {");
        broken(2, "BAD is ahead of FULL", "if (letter < 32 || letter > 126) {", "if (text.length == 200) { return FULL; } if (letter < 32 || letter > 126) {");
        broken(2, "a letter that is FULL does not come", "if (length >= letters.length) {\n", "if (length >= letters.length) { letters[length - 1] = (char) letter;\n");
        broken(3, "a shorter text is not followed by what was", "place >= 0 && place < length && place < letters.length", "place >= 0 && place < letters.length");
        broken(3, "what is laid stays as it is", "int length = text.length;\n", "int length = text.length; now.begin(now.truth);\n");
        broken(4, "none of an empty text", "return text.readInto(spare);", "return text.length == 0 ? 0 : text.readInto(spare);");
        broken(4, "nothing changes by asking", "return text.readInto(spare);", "return text.readInto(tree);");
        broken(4, "the place of the item, not of what is wrong in it", "letterAt(place), numbers, amount)) {\n                    return place;",
                "letterAt(place), numbers, amount)) {\n                    return place + 1;");
    }

    private void form() {
        broken(4, "nothing stands between them", "place = end;", "place = letterAt(end) == ' ' ? end + 1 : end;");
        broken(4, "no other than t, p, i, g, d, n", "switch (letter) {", "switch (letter | 32) {");
        broken(4, "the text ends ahead of it", "if (mark == ';') {", "if (mark == ';' || mark == 0) {");
        broken(4, "by no other sign", "if (mark != ',') {", "if (mark != ',' && mark != '.') {");
        broken(4, "no figure, three figures", "return isFigure(letterAt(place + 1)) ? 2 : 1;", "return isFigure(letterAt(place + 1)) ? isFigure(letterAt(place + 2)) ? 3 : 2 : 1;");
        broken(4, "of figures alone", "return isWithin(letter, '0', '9');", "return isWithin(letter, '0', ':');");
        broken(4, "a THING of weight W (1 to 20)\": four numbers", "amount == 4 && takesThing", "takesThing");
        broken(4, "a PARCEL whose box weighs B (0 to 9)\": three numbers", "amount == 3 && takesParcel", "takesParcel");
        broken(4, "THING T is in PARCEL P\": two numbers", "amount == 2 && takesTruth", "takesTruth");
        broken(4, "in steps of G (1 to 9\": one number", "amount == 1 && takesScale", "takesScale");
        broken(4, "D (0 to 40) apart\": one number", "amount == 1 && takesApart", "takesApart");
        broken(4, "a trial of SORT K (0 WEIGH, 1 TIP, 2 SHAKE, 3 PRESS)\": three numbers", "amount == 3 && takesSort", "takesSort");
    }

    private void items() {
        String told = "told |= 1 << (MOST_THINGS * p + t);";
        broken(4, "it is no fault", told, "if ((inside(told, p) & (1 << t)) != 0) { return false; } " + told);
        broken(4, "whether it fits is no matter of a fault", told, "if (Integer.bitCount(inside(told, p) | (1 << t)) > at(room, p)) { return false; } " + told);
        broken(4, "the parcel is the first number", "takesTruth(at(numbers, 0), at(numbers, 1))", "takesTruth(at(numbers, 1), at(numbers, 0))");
        broken(4, "a parcel that is not there, or only later", "if (!isBelow(p, parcels) || !isBelow(t, things.amount)) {", "if (!isBelow(p, MOST_PARCELS) || !isBelow(t, things.amount)) {");
        broken(4, "a thing that is not there, or only later", "if (!isBelow(p, parcels) || !isBelow(t, things.amount)) {", "if (!isBelow(p, parcels) || !isBelow(t, MOST_THINGS)) {");
        broken(4, "the 9th is a fault", "if (things.amount >= MOST_THINGS || ", "if (");
        broken(4, "the 5th is a fault", "if (parcels >= MOST_PARCELS || ", "if (");
        broken(5, "1 without; the last one)\": the last of several", "scale = steps;", "scale = scale == 1 ? steps : scale;");
        broken(5, "40 without; the last one)\": the last of several", "apart = most;", "apart = Math.min(apart, most);");
        broken(5, "the last of each sort", "put(noticed, sort, tenths);", "put(noticed, sort, Math.max(tenths, at(noticed, sort)));");
        broken(4, "the last one)\": a wrong one is a fault though", "if (!isWithin(steps, 1, 9)) {\n                return false;", "if (!isWithin(steps, 1, 9)) {\n                return true;");
    }

    private void laid() {
        String lay = "return layText() ? all.size : NO;";
        broken(5, "the text stays and can be laid again", lay, "if (layText()) { text.clear(); return all.size; } return NO;");
        broken(5, "the text stays", lay, "if (layText()) { return all.size; } text.clear(); return NO;");
        broken(5, "what was laid stays, with all that was done", lay, "if (layText()) { return all.size; } now.begin(now.truth); stale = true; return NO;");
        broken(5, "none at all", " || spare.parcels == 0", "");
        broken(5, "a fault at its end", "text.readInto(spare) != NONE || ", "text.readInto(spare) == 0 || ");
        String room = "Integer.bitCount(set) != at(room, p) ||";
        broken(5, "too few in a parcel", room, "Integer.bitCount(set) > at(room, p) ||");
        broken(5, "too many in a parcel", room, "Integer.bitCount(set) < at(room, p) ||");
        broken(5, "a thing told to be in two parcels", room + " (set & used) != 0", "Integer.bitCount(set) != at(room, p)");
        broken(5, "one child alone is never unfair", "return !hasParcels(0) || !hasParcels(1) || ", "return ");
        broken(5, "just as far, one further", "worthFor(world, 1)) <= apart", "worthFor(world, 1)) < apart");
        broken(5, "just as far, one further", "Math.abs(worthFor(world, 0) - worthFor(world, 1))", "(worthFor(world, 0) - worthFor(world, 1))");
        broken(5, "things in no parcel do not count", "return at(things.worthOfSet, set);", "return at(things.worthOfSet, of == 0 ? set : (1 << things.amount) - 1);");
        broken(5, "worlds that are too far apart are none", "if (tree.isFair(world)) {", "if (world != 0) {");
        broken(5, "it counts once", "told |= 1 << (MOST_THINGS * p + t);", "told ^= 1 << (MOST_THINGS * p + t);");
        broken(5, "things that are alike are still two", "if ((set & used) == 0 && ", "if (high > 0 && (set & used) == 0 && ");
        String before = "nothing of the trees that were is left";
        broken(5, before, "            firm = 0;\n", "");
        broken(5, before, "            rolling = 0;\n", "");
        broken(5, before, "            sliding = 0;\n", "");
        broken(5, before, "            Arrays.fill(noticed, 0);\n", "");
        broken(5, before, "            Arrays.fill(lasting, 10);\n", "            if (at(lasting, 0) == 0) { Arrays.fill(lasting, 10); }\n");
        broken(5, "no answers", "now.begin(tree.told);", "now.truth = tree.told;");
        broken(5, "what was changed is as told again", "truth = told;", "truth = truth == 0 ? told : truth;");
    }

    private void tree() {
        broken(6, "a thing in no parcel is in NONE", "        return NONE;\n    }\n\n    private void note", "        return BAD;\n    }\n\n    private void note");
        broken(6, "in truth as it is now", "if ((inside(now.truth, p) & (1 << t)) != 0) {", "if ((inside(tree.told, p) & (1 << t)) != 0) {");
        broken(7, "in truth as it is now", "return inside(now.truth, p);", "return inside(tree.told, p);");
        broken(8, "answers leave out none", "return w < all.size ? inside(all.take(w), p) : NONE;", "return w < left() ? inside(findRemaining().take(w), p) : NONE;");
        broken(8, "BAD is ahead of NONE", "if (w < 0 || !isParcel(p)) {", "if (w >= all.size) { return NONE; } if (w < 0 || !isParcel(p)) {");
        broken(8, "w below 0", "if (w < 0 || !isParcel(p)) {", "if (w < 0) { return NONE; } if (!isParcel(p)) {");
        broken(8, "by bits, not by the lower thing", "for (int low = 0; low <= high; low++) {", "for (int low = high; low < tree.things.amount; low++) {");
        broken(8, "none in two (nor twice)\": in each world", "if ((set & used) == 0 && ", "if (");
        broken(8, "in each world", "== at(tree.room, p)) {", "<= at(tree.room, p)) {");
    }

    private void answers() {
        broken(9, "a set of more things than there is room for", "!isBelow(set, 1 << tree.things.amount)", "Integer.bitCount(set) > at(tree.room, p) || !isBelow(set, 1 << tree.things.amount)");
        broken(9, "(the empty set as well)", "!isBelow(set, 1 << tree.things.amount)", "set == 0 || !isBelow(set, 1 << tree.things.amount)");
        broken(9, "(the empty set as well)", "return (set & firm) == 0 ? 1 : 0;", "return set != 0 && (set & firm) == 0 ? 1 : 0;");
        broken(9, "a set below 0 or with a thing that is not there", "!isBelow(set, 1 << tree.things.amount)", "!isBelow(set, SETS)");
        broken(9, "a false weight does not count", "return tree.reply(p, sort, set, 0);", "return tree.reply(p, sort, set, at(now.hidden, p));");
        String weigh = "return inSteps(at(box, p) + at(things.weightOfSet, set) + hidden);";
        broken(9, "together, not each by itself", weigh, "return inSteps(at(box, p)) + inSteps(at(things.weightOfSet, set) + hidden);");
        broken(9, "cut just below a step and at it", "return scale > 0 ? weight / scale : weight;", "return scale > 0 ? (weight + scale / 2) / scale : weight;");
        broken(9, "weights alone", "                    return things.shaken(set);", "                    return inSteps(things.shaken(set));");
        broken(9, "TIP: 2, if a ROLLING one is in it", "((set & rolling) != 0 ? 2 : 0)", "2 * Integer.bitCount(set & rolling)");
        broken(9, "TIP: 2, if a ROLLING one is in it", "((set & sliding) != 0 ? 1 : 0)", "Integer.bitCount(set & sliding)");
        broken(9, "SHAKE: how many in it are not SOFT", "if (ofKind != SOFT) {", "if (ofKind == SLIDING || ofKind == ROLLING) {");
        broken(9, "PRESS: 1, if all in it are SOFT", "return (set & firm) == 0 ? 1 : 0;", "return (set & ~firm) != 0 || set == 0 ? 1 : 0;");
        broken(10, "the false weight is weighed ahead of the cut", weigh, "return inSteps(at(box, p) + at(things.weightOfSet, set)) + hidden;");
    }

    private void trials() {
        broken(10, "BAD is ahead of FULL", "if (!isParcel(p) || !isSort(sort)) {", "if (now.isFull()) { return FULL; } if (!isParcel(p) || !isSort(sort)) {");
        broken(10, "by WEIGH alone, in its parcel alone", "return things.shaken(set);", "return things.shaken(set) + (hidden > 0 ? 1 : 0);");
        broken(10, "by WEIGH alone, in its parcel alone", "inside(now.truth, p), at(now.hidden, p));", "inside(now.truth, p), at(now.hidden, 0));");
        broken(10, "the truth as it is now", "inside(now.truth, p), at(now.hidden, p));", "inside(tree.told, p), at(now.hidden, p));");
        broken(10, "the 12th comes, the 13th is FULL", "return answers >= MOST_ANSWERS;", "return answers >= MOST_ANSWERS - 1;");
        String hear = "if (!isParcel(p) || !isSort(sort) || !isBelow(answer, 100)) {";
        broken(11, "BAD is ahead of FULL", hear, "if (now.isFull()) { return FULL; } " + hear);
        broken(11, "0 and 99 are heard, -1 and 100 are BAD", hear, "if (!isParcel(p) || !isSort(sort) || !isBelow(answer, 64)) {");
        broken(11, "one that can not be, of each sort", "note(p, sort, answer);", "if (answer > 58) { return NO; } note(p, sort, answer);");
        broken(11, "neither the truth nor a false weight matters", "note(p, sort, answer);", "note(p, sort, tree.reply(p, sort, inside(now.truth, p), 0));");
        broken(11, "those that were TRIED, too", "return now.answers;\n    }\n\n    public int change", "return undoable.size;\n    }\n\n    public int change");
        broken(11, "one that is undone makes room", "            answers = other.answers;\n", "");
    }

    private void changes() {
        broken(12, "boxes, children, false weights, answers stay", "now.truth = changed;",
                "now.truth = changed; int other = at(now.hidden, p); put(now.hidden, p, at(now.hidden, q)); put(now.hidden, q, other);");
        broken(12, "of p, not of q", "return inside(changed, p);", "return inside(changed, q);");
        broken(12, "with 12 answers as well", "int changed = swapped(now.truth, p, q);", "if (now.isFull()) { return FULL; } int changed = swapped(now.truth, p, q);");
        broken(12, "a world that is not LEFT is still one", "|| !tree.isWorld(changed)", "|| !findRemaining().holds(changed)");
        broken(12, "just fair, just not fair", " || !tree.isWorld(changed)", "");
        broken(12, "a parcel with itself", "!isParcel(p) || !isParcel(q) || p == q) {\n            return BAD;\n        }\n        int changed", "!isParcel(p) || !isParcel(q)) {\n            return BAD;\n        }\n        int changed");
        broken(12, "BAD is ahead of NO", "if (!isParcel(p) || !isParcel(q) || p == q) {\n            return BAD;\n        }\n        int changed",
                "if (at(tree.room, p) != at(tree.room, q)) { return NO; } if (!isParcel(p) || !isParcel(q) || p == q) {\n            return BAD;\n        }\n        int changed");
        broken(13, "not besides it", "put(now.hidden, p, weight);", "raise(now.hidden, p, weight);");
        broken(13, "the same again can be undone as well", "undoable.push(now);\n        int before", "if (at(now.hidden, p) != weight) { undoable.push(now); }\n        int before");
        broken(13, "at first 0, of each parcel its own", "return before;", "return weight;");
        broken(13, "0 and 9 are, -1 and 10 are BAD", "!isBelow(weight, 10)", "!isWithin(weight, 1, 9)");
    }

    private void undone() {
        broken(14, "what was CHANGED", "undoable.push(now);\n        now.truth = changed;", "now.truth = changed;");
        broken(14, "a false weight: the one that was is there again", "undoable.push(now);\n        int before", "int before");
        broken(14, "what was HEARD", "note(p, sort, answer);", "now.add(trialOf(p, sort), answer); stale = true;");
        broken(14, "what was TRIED", "note(p, sort, reply);", "now.add(trialOf(p, sort), reply); stale = true;");
        broken(14, "8 of 8, 8 of 9", "if (isFull()) {\n                dropLowest();\n            }\n", "");
        broken(14, "writing, keeping, asking are none of these four", "kept.push(now);", "undoable.push(now); kept.push(now);");
        broken(14, "the latest first, among all four", "            truth = other.truth;\n", "");
        broken(14, "what was HEARD", "        stale = true;\n        return undoable.size;", "        return undoable.size;");
    }

    private void mayBe() {
        broken(15, "all of them, the first as well as the last", "remaining.copy(all);\n            judged = NONE;\n            for (int i = 0;", "remaining.copy(all);\n            judged = NONE;\n            for (int i = Math.max(0, now.answers - 8);");
        broken(15, "what is put in or changed later leaves answers as they were", "put(now.hidden, p, weight);", "put(now.hidden, p, weight); now.answers = 0; stale = true;");
        String likely = "return inLowestTerms(with, together, part);";
        broken(16, "in lowest terms", likely, "return part == 0 ? with : together;");
        broken(16, "never is 0 by 1, sure is 1 by 1", likely, "return with == 0 ? part == 0 ? 0 : together : inLowestTerms(with, together, part);");
        broken(16, "those in the other parcels, too", "long chance = tree.chanceOf(world);\n            together += chance;", "long chance = at(tree.things.chanceOfSet, inside(world, p));\n            together += chance;");
        broken(16, "more together than an int holds", "long with = 0;\n        long together = 0;", "int with = 0;\n        int together = 0;");
        broken(16, "of each part", "if (list.size == 0) {\n            return NONE;\n        }\n        long with", "if (list.size == 0) {\n            return part;\n        }\n        long with");
        broken(16, "BAD is ahead of NONE", "if (!isParcel(p) || !isThing(t) || !isBelow(part, 2)) {", "if (left() == 0) { return NONE; } if (!isParcel(p) || !isThing(t) || !isBelow(part, 2)) {");
        broken(17, "all there are, not all there could be", "int bits = (1 << tree.things.amount) - 1;", "int bits = WHOLE_SET;");
        broken(17, "all there are, not all there could be", "return bits;", "return list.size == 0 ? 0 : bits;");
        broken(17, "all there are, not all there could be", "return bits;", "return list.size == 0 && !never ? 0 : bits;");
        broken(18, "the first of several", "if (remaining.size == 0 && judged == NONE) {", "if (remaining.size == 0) {");
        broken(18, "from the 1st, 0, to the 12th, 11", "judged = i;", "judged = i + 1;");
        broken(18, "no answers, or some are LEFT", "judged = NONE;\n            for", "for");
    }

    private void guesses() {
        String sum = "chanceBySet[set] += chance;";
        broken(19, "weight, not number", sum, "chanceBySet[set] += 1;");
        broken(19, "together: more than the heaviest world", sum, "chanceBySet[set] = Math.max(chanceBySet[set], chance);");
        broken(19, "of several the lowest", "if (chanceBySet[set] > chanceBySet[best]) {", "if (chanceBySet[set] >= chanceBySet[best] && chanceBySet[set] > 0) {");
        broken(19, "of those LEFT alone", "long together = sumChances(list, p);", "long together = sumChances(all, p);");
        broken(19, "in lowest terms", "inLowestTerms(chanceBySet[best], together, what - 1)", "(what == 1 ? chanceBySet[best] : together)");
        broken(19, "the highest set that can be", "for (int set = 1; set < chanceBySet.length; set++) {", "for (int set = 1; set < chanceBySet.length / 2; set++) {");
        broken(19, "BAD is ahead of NONE", "if (!isParcel(p) || !isBelow(what, 3)) {", "if (left() == 0) { return NONE; } if (!isParcel(p) || !isBelow(what, 3)) {");
    }

    private void toTry() {
        broken(20, "by parcel, then by sort", "for (int p = 0; p < tree.parcels; p++) {\n                countSets(list, p);\n                for (int sort = 0; sort < SORTS; sort++) {",
                "for (int sort = 0; sort < SORTS; sort++) {\n                for (int p = 0; p < tree.parcels; p++) {\n                countSets(list, p);");
        broken(20, "of several the first sort", "if (most < worst) {", "if (most <= worst) {");
        broken(20, "of what is LEFT now", "finder.choose(tree, list);\n        return", "finder.choose(tree, all);\n        return");
        broken(20, "none is LEFT", "            return NONE;\n        }\n        finder.choose", "            return 0;\n        }\n        finder.choose");
        broken(20, "a trial of the last parcel", "return SORTS * p + sort;", "return SORTS * Math.min(p, 2) + sort;");
        broken(21, "1: a trial of this parcel, or of another one", "if (tells(tree, list, second, p, from, to)) {", "if (parcelOf(second) == p && tells(tree, list, second, p, from, to)) {");
        broken(21, "1: a trial of the last parcel", "return SORTS * parcels;", "return SORTS + parcels;");
        broken(21, "0: one world, or all alike for this parcel", "if (isKnown(list, p)) {", "if (list.size == 1) {");
        broken(21, "2: whichever trial comes first", "for (int first = 0; first < tree.trials(); first++) {", "for (int first = 1; first < tree.trials(); first++) {");
        broken(21, "2: whichever trial comes first", "for (int first = 0; first < tree.trials(); first++) {", "for (int first = 0; first < 1; first++) {");
        broken(21, "no trials are enough", "grouped.set(at(starts, reply), world);", "");
        broken(21, "three would be enough, two are not", "if (eachGroupIsTold(tree, grouped, p)) {", "if (first == 1 || eachGroupIsTold(tree, grouped, p)) {");
        String solved = "return solve(findRemaining(), now.truth, what);";
        broken(22, "more than 12 answers", solved, "if (now.isFull()) { return NONE; } " + solved);
        broken(22, "from what is LEFT now", solved, "return solve(all, now.truth, what);");
        broken(22, "the truth was changed", solved, "return solve(findRemaining(), tree.told, what);");
        broken(22, "as if HEARD: nothing is", solved, "int told = solve(findRemaining(), now.truth, what); note(0, 0, 0); return told;");
        broken(22, "the truth is not LEFT, though one is", "if (!list.holds(truth)) {", "if (list.size == 0) {");
        broken(22, "no false weights", "tree.reply(p, sort, inside(truth, p), 0)", "tree.reply(p, sort, inside(truth, p), 1)");
        broken(22, "it does not come to that", "if (worst >= list.size) {\n                    return false;", "if (worst >= list.size) {\n                    return true;");
        broken(23, "12 of 9 by ten", "long unseen = 1;\n        long together = 1;", "int unseen = 1;\n        int together = 1;");
        broken(23, "12 of 5 by ten, in lowest terms", "return inLowestTerms(together - unseen, together, part);", "return part == 0 ? together - unseen : together;");
        broken(23, "no trial: 0 by 1", "return inLowestTerms(together - unseen, together, part);", "return now.answers == 0 ? NONE : inLowestTerms(together - unseen, together, part);");
        broken(24, "no answers", "int sum = 0;\n", "int sum = now.answers == 0 ? NONE : 0;\n");
        broken(24, "of each sort its own", "sum += at(tree.lasting, sortOf(at(now.trials, i)));", "sum += at(tree.lasting, 0);");
    }

    private void whoGetsWhat() {
        String misled = "tree.reply(p, WEIGH, inside(now.truth, p), weight)";
        broken(25, "in place of the one that was, which stays", misled, "tree.reply(p, WEIGH, inside(now.truth, p), weight + at(now.hidden, p))");
        broken(25, "by the truth as it is now", misled, "tree.reply(p, WEIGH, inside(tree.told, p), weight)");
        broken(25, "none would be, though some are LEFT", "return what == 0 ? best : most;", "return most == 0 ? NONE : what == 0 ? best : most;");
        broken(25, "none is below 0", "for (int weight = 0; weight < 10; weight++) {", "for (int weight = -1; weight < 10; weight++) {");
        broken(25, "0 is one: the truth itself leaves most", "for (int weight = 0; weight < 10; weight++) {", "for (int weight = 1; weight < 10; weight++) {");
        broken(26, "all parcels of a child together", "set |= inside(world, p);\n                }", "set = inside(world, p);\n                }");
        broken(26, "a child without parcels gets nothing", "int found = 0;\n        for (int i = 0; i < list.size; i++) {\n            int world = list.take(i);\n            int order",
                "int found = 0;\n        if (!tree.hasParcels(0) || !tree.hasParcels(1)) { return 0; }\n        for (int i = 0; i < list.size; i++) {\n            int world = list.take(i);\n            int order");
        String heavier = "tree.weightWithBox(p, inside(world, p)) > tree.weightWithBox(q, inside(world, q))";
        broken(27, "weights, not steps of the scale", heavier, "tree.reply(p, WEIGH, inside(world, p), 0) > tree.reply(q, WEIGH, inside(world, q), 0)");
        broken(27, "of two things, without false weights", heavier, "tree.weightWithBox(p, inside(world, p)) + at(now.hidden, p) > tree.weightWithBox(q, inside(world, q))");
        broken(27, "as heavy is not heavier", heavier, "tree.weightWithBox(p, inside(world, p)) >= tree.weightWithBox(q, inside(world, q))");
        broken(27, "boxes, too", "return at(box, p) + at(things.weightOfSet, set);", "return at(things.weightOfSet, set);");
        broken(28, "though x times x is more than an int holds", "long x = 7919L * z + 1;\n        int draw = (int) (x * x % 65521);", "int x = 7919 * z + 1;\n        int draw = Math.floorMod(x * x, 65521);");
        broken(28, "none LEFT out", "all.take(draw % all.size)", "left() > 0 ? findRemaining().take(draw % left()) : all.take(0)");
        broken(28, "whatever was heard, put in, changed", "return solve(all, all.take", "return solve(findRemaining(), all.take");
        broken(28, "nothing changes by it", "return solve(all, all.take(draw % all.size), what);", "now.truth = all.take(draw % all.size); return solve(all, now.truth, what);");
    }

    private void kept() {
        broken(29, "1, 2, then FULL", "private static final int MOST_KEPT = 2;", "private static final int MOST_KEPT = 3;");
        broken(29, "not kept in place of another", "if (kept.isFull()) {\n            return FULL;\n        }\n        kept.push(now);", "if (kept.isFull()) {\n            kept.push(now); return FULL;\n        }\n        kept.push(now);");
        broken(29, "it is none of what can be undone", "kept.push(now);", "undoable.clear(); kept.push(now);");
        broken(30, "the truth", "            truth = other.truth;\n", "");
        broken(30, "false weights", "put(hidden, i, at(other.hidden, i));", "");
        broken(30, "another first one meanwhile", "for (int i = 0; i < MOST_ANSWERS; i++) {", "for (int i = 1; i < MOST_ANSWERS; i++) {");
        broken(30, "12 answers, each as it was", "for (int i = 0; i < MOST_ANSWERS; i++) {", "for (int i = 0; i < 10; i++) {");
        broken(30, "the last first", "scene.copy(row[size]);", "scene.copy(row[0]);");
        broken(30, "nothing can be undone, neither what was ahead", "undoable.clear();\n        stale = true;\n        return kept.size;", "stale = true;\n        return kept.size;");
        broken(30, "nothing can be undone, neither what was ahead", "undoable.clear();\n        stale = true;\n        return kept.size;", "undoable.push(now);\n        stale = true;\n        return kept.size;");
        broken(30, "ANSWERS, more again and fewer again", "undoable.clear();\n        stale = true;\n        return kept.size;", "undoable.clear();\n        return kept.size;");
        broken(30, "what can be undone stays so", "if (!kept.popInto(now)) {", "if (kept.size == 0) { undoable.clear(); } if (!kept.popInto(now)) {");
        broken(30, "not the text", "undoable.clear();\n        stale = true;\n        return kept.size;", "text.clear();\n        undoable.clear();\n        stale = true;\n        return kept.size;");
        broken(31, "WORLDS are all of them, not those LEFT", "return all.size;\n            case 3:", "return left();\n            case 3:");
        broken(31, "what is written is not laid yet", "return tree.things.amount;\n            case 1:", "return text.length == 0 ? tree.things.amount : spare.things.amount;\n            case 1:");
    }
}
