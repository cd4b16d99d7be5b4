import java.util.ArrayList;

/** A model, a rule for each kind, and one text made of them that hands may change. */
public final class MadeMended {
    public static final int NONE = -1;

    private static final int MOST_TAPE = 120;
    private static final int MOST_THINGS = 24;
    private static final int MOST_NAME = 6;
    private static final int MOST_DEEP = 6;
    private static final int KINDS = 8;
    private static final int NUMBERS = 4;
    private static final int MOST_NUMBER = 99999;
    private static final int MOST_DIGITS = 5;
    private static final int MOST_SUM_DIGITS = 6;
    private static final int MOST_ITEMS = 20;
    private static final int MOST_PIECES = 250;
    private static final int MOST_MADE = 3000;
    private static final int MOST_USES = 2000;
    private static final int MOST_HAND = 60;
    private static final int MOST_LONE = 30;

    private static final int WORD = 0;
    private static final int NAME = 1;
    private static final int NUMBER = 2;
    private static final int SUM = 3;
    private static final int PLACE = 4;
    private static final int KIND = 5;
    private static final int WHEN = 6;
    private static final int WHEN_ENDS = 7;

    private static final int BAD_BYTE = 1;
    private static final int BAD_MARK = 2;
    private static final int BAD_NESTING = 3;
    private static final int NOT_CLOSED = 4;
    private static final int TOO_MANY_ITEMS = 5;

    private final Tape tape;
    private final Model model;
    private final Rule[] rules;
    private final Making making;
    private final LoneTexts lones;
    private Rule latest;
    private Text now;
    private Text spare;

    public MadeMended() {
        tape = new Tape();
        model = new Model();
        rules = new Rule[KINDS];
        Rule bare = new Rule(new int[0]);
        for (int kind = 0; kind < KINDS; kind++) {
            rules[kind] = bare;
        }
        now = new Text();
        spare = new Text();
        making = new Making(rules, spare);
        lones = new LoneTexts();
        latest = null;
    }

    public int feed(int a, int b, int c, int d, int e) {
        if (tape.length + 20 > MOST_TAPE) {
            return NONE;
        }
        tape.putFour(a);
        tape.putFour(b);
        tape.putFour(c);
        tape.putFour(d);
        tape.putFour(e);
        return tape.length;
    }

    public int end(int n) {
        if (n < 0 || n > tape.length) {
            return NONE;
        }
        tape.length = n;
        return n;
    }

    public int thing(int kind, int in) {
        Thing around = in == NONE ? model.ground : model.at(in);
        int slot = model.freeSlot();
        if (!isKind(kind) || around == null || around.depth >= MOST_DEEP || slot == NONE || !tape.isName()) {
            return NONE;
        }
        model.put(new Thing(slot, kind, around, tape.cutAll()));
        return slot;
    }

    public boolean number(int t, int j, int v) {
        Thing thing = model.at(t);
        if (thing == null || !canBeNumber(j, v)) {
            return false;
        }
        thing.numbers[j] = v;
        return true;
    }

    public boolean name(int t) {
        Thing thing = model.at(t);
        if (thing == null || !tape.isName()) {
            return false;
        }
        thing.letters = tape.cutAll();
        return true;
    }

    public boolean move(int t, int k) {
        Thing thing = model.at(t);
        return thing != null && model.shift(thing, k);
    }

    public int drop(int t) {
        Thing thing = model.at(t);
        return thing == null ? NONE : model.remove(thing);
    }

    public int rule(int kind) {
        if (!isKind(kind)) {
            return NONE;
        }
        Rule read = new Rule(tape.cutAll());
        read.readItems();
        latest = read;
        if (read.flaw != 0) {
            return NONE;
        }
        rules[kind] = read;
        return read.count;
    }

    public int fault(int what) {
        if (latest == null) {
            return NONE;
        }
        switch (what) {
            case 0: return latest.flaw;
            case 1: return latest.flawPlace;
            default: return NONE;
        }
    }

    public int make() {
        making.fill(spare, model.ground);
        return spare.full ? NONE : turnToSpare();
    }

    public int piece(int p, int what) {
        Piece piece = now.at(p);
        if (piece == null) {
            return NONE;
        }
        switch (what) {
            case 0: return piece.thing.gone ? NONE : piece.thing.slot;
            case 1: return piece.item;
            case 2: return piece.sort;
            case 3: return piece.shownLength();
            case 4: return piece.length;
            case 5: return piece.byHand == null ? 0 : 1;
            case 6: return now.isClash(piece) ? 1 : 0;
            case 7: return piece.thing.depth;
            case 8: return piece.thing.kind;
            default: return NONE;
        }
    }

    public int byteOf(int p, int what, int i) {
        Piece piece = now.at(p);
        if (piece == null) {
            return NONE;
        }
        switch (what) {
            case 0: return now.shownByte(piece, i);
            case 1: return now.madeByte(piece, i);
            case 2: return piece.byHand == null ? NONE : elementOf(piece.byHand.base, i);
            default: return NONE;
        }
    }

    public boolean hand(int p) {
        Piece piece = now.at(p);
        if (piece == null || tape.length > MOST_HAND) {
            return false;
        }
        int[] row = tape.cutAll();
        piece.byHand = now.madeIs(piece, row) ? null : new Hand(row, now.copyOfMade(piece));
        return true;
    }

    public boolean take(int p, int which) {
        Piece piece = now.at(p);
        if (piece == null || which < 0 || which > 1 || !now.isClash(piece)) {
            return false;
        }
        piece.byHand = which == 1 ? null : new Hand(piece.byHand.row, now.copyOfMade(piece));
        return true;
    }

    public int back(int p) {
        Piece piece = now.at(p);
        if (piece == null || piece.sort != NUMBER || piece.byHand == null || piece.thing.gone) {
            return NONE;
        }
        int value = valueOf(piece.byHand.row);
        if (value == NONE || !fillSpareWith(piece.thing, piece.number, value)) {
            return NONE;
        }
        piece.thing.numbers[piece.number] = value;
        piece.byHand = null;
        return turnToSpare();
    }

    public int touch(int t, int j, int v, int what) {
        Thing thing = model.at(t);
        if (thing == null || !canBeNumber(j, v) || what < 0 || what > 3 || !fillSpareWith(thing, j, v)) {
            return NONE;
        }
        int lost = spare.takeHands(now);
        switch (what) {
            case 0: return spare.countUnlike(now);
            case 1: return spare.countClashes();
            case 2: return lost;
            default: return spare.count;
        }
    }

    public int text(int at) {
        int p = now.showing(at);
        Piece piece = now.at(p);
        return piece == null ? NONE : now.shownByte(piece, at - now.shownBefore(p));
    }

    public int maker(int at) {
        return now.showing(at);
    }

    public int lone(int l, int what, int i) {
        Lone lone = lones.at(l);
        if (lone == null) {
            return NONE;
        }
        switch (what) {
            case 0: return elementOf(lone.row, i);
            case 1: return lone.sort;
            case 2: return lone.item;
            case 3: return lone.row.length;
            default: return NONE;
        }
    }

    public boolean drops(int l) {
        return lones.remove(l);
    }

    public int thingOf(int t, int what) {
        Thing thing = model.at(t);
        if (thing == null) {
            return NONE;
        }
        switch (what) {
            case 0: return thing.kind;
            case 1: return thing.in == null ? NONE : thing.in.slot;
            case 2: return model.placeOf(thing);
            case 3: return thing.letters.length;
            default: return what < 100 ? elementOf(thing.numbers, what - 10) : elementOf(thing.letters, what - 100);
        }
    }

    public int about(int what) {
        switch (what) {
            case 0: return model.count;
            case 1: return now.count;
            case 2: return now.shownBefore(now.count);
            case 3: return now.countClashes();
            case 4: return lones.list.size();
            case 5: return lones.fallen;
            case 6: return tape.length;
            default: return what >= 10 && what < 10 + KINDS ? rules[what - 10].count : NONE;
        }
    }

    /** Leaves the model as it was; false if the text would be FULL. */
    private boolean fillSpareWith(Thing thing, int j, int v) {
        int before = thing.numbers[j];
        thing.numbers[j] = v;
        making.fill(spare, model.ground);
        thing.numbers[j] = before;
        return !spare.full;
    }

    private int turnToSpare() {
        spare.takeHands(now);
        lones.keepLost(now);
        Text old = now;
        now = spare;
        spare = old;
        return now.count;
    }

    private static boolean isKind(int kind) {
        return kind >= 0 && kind < KINDS;
    }

    private static boolean canBeNumber(int j, int v) {
        return j >= 0 && j < NUMBERS && v >= 0 && v <= MOST_NUMBER;
    }

    private static int elementOf(int[] row, int i) {
        return i >= 0 && i < row.length ? row[i] : NONE;
    }

    private static int valueOf(int[] row) {
        if (row.length == 0 || row.length > MOST_DIGITS || (row[0] == '0' && row.length > 1)) {
            return NONE;
        }
        int value = 0;
        for (int i = 0; i < row.length; i++) {
            if (row[i] < '0' || row[i] > '9') {
                return NONE;
            }
            value = value * 10 + row[i] - '0';
        }
        return value;
    }

    private static final class Tape {
        private final int[] bytes = new int[MOST_TAPE];
        int length;

        void putFour(int four) {
            for (int shift = 24; shift >= 0 && length < MOST_TAPE; shift -= 8) {
                bytes[length] = (four >>> shift) & 255;
                length++;
            }
        }

        boolean isName() {
            for (int i = 0; i < length; i++) {
                boolean small = bytes[i] >= 'a' && bytes[i] <= 'z';
                boolean large = bytes[i] >= 'A' && bytes[i] <= 'Z';
                if (!small && !large) {
                    return false;
                }
            }
            return length >= 1 && length <= MOST_NAME;
        }

        int[] cutAll() {
            int[] row = new int[length];
            System.arraycopy(bytes, 0, row, 0, length);
            length = 0;
            return row;
        }
    }

    private static final class Thing {
        final int slot;
        final int kind;
        final Thing in;
        final int depth;
        final int[] numbers = new int[NUMBERS];
        final ArrayList<Thing> parts = new ArrayList<>();
        int[] letters;
        boolean gone;

        Thing(int slot, int kind, Thing in, int[] letters) {
            this.slot = slot;
            this.kind = kind;
            this.in = in;
            this.depth = in == null ? 0 : in.depth + 1;
            this.letters = letters;
        }

        boolean isWithin(Thing other) {
            Thing around = this;
            for (int level = 0; level <= MOST_DEEP && around != null; level++) {
                if (around == other) {
                    return true;
                }
                around = around.in;
            }
            return false;
        }
    }

    private static final class Model {
        /** Things that lie in none lie in this one, so that every thing has a place in some list. */
        final Thing ground = new Thing(NONE, NONE, null, new int[0]);
        private final Thing[] things = new Thing[MOST_THINGS];
        int count;

        Thing at(int t) {
            return t >= 0 && t < MOST_THINGS ? things[t] : null;
        }

        int freeSlot() {
            for (int t = 0; t < MOST_THINGS; t++) {
                if (things[t] == null) {
                    return t;
                }
            }
            return NONE;
        }

        void put(Thing thing) {
            if (thing.in == null || thing.slot < 0 || thing.slot >= MOST_THINGS) {
                return;
            }
            things[thing.slot] = thing;
            thing.in.parts.add(thing);
            count++;
        }

        int placeOf(Thing thing) {
            if (thing.in == null) {
                return NONE;
            }
            ArrayList<Thing> beside = thing.in.parts;
            for (int k = 0; k < beside.size(); k++) {
                if (beside.get(k) == thing) {
                    return k;
                }
            }
            return NONE;
        }

        boolean shift(Thing thing, int k) {
            int place = placeOf(thing);
            if (place == NONE || k < 0 || k >= thing.in.parts.size()) {
                return false;
            }
            thing.in.parts.remove(place);
            thing.in.parts.add(k, thing);
            return true;
        }

        int remove(Thing thing) {
            int before = count;
            int place = placeOf(thing);
            if (place != NONE) {
                thing.in.parts.remove(place);
            }
            for (int t = 0; t < MOST_THINGS; t++) {
                if (things[t] != null && things[t].isWithin(thing)) {
                    things[t].gone = true;
                    things[t] = null;
                    count--;
                }
            }
            return before - count;
        }
    }

    private static final class Rule {
        final int[] bytes;
        final int[] sorts;
        /** A WORD's first byte, the (first) number of a NUMBER, SUM or WHEN, or a KIND. */
        final int[] firsts;
        /** A WORD's length, or the second number of a SUM. */
        final int[] seconds;
        int count;
        int flaw;
        int flawPlace = NONE;
        private boolean open;

        Rule(int[] bytes) {
            int most = Math.min(bytes.length, MOST_ITEMS);
            this.bytes = bytes;
            this.sorts = new int[most];
            this.firsts = new int[most];
            this.seconds = new int[most];
        }

        void readItems() {
            int at = 0;
            for (int n = 0; n <= MOST_ITEMS && flaw == 0 && at < bytes.length; n++) {
                at = bytes[at] == '<' ? readMark(at) : readWord(at);
            }
            if (flaw == 0 && open) {
                blame(NOT_CLOSED, bytes.length);
            }
        }

        private int readWord(int at) {
            int to = at;
            while (to < bytes.length && bytes[to] >= 32 && bytes[to] <= 126 && bytes[to] != '<') {
                to++;
            }
            // A bad first byte has the very place of the item that it would begin, and goes ahead of it.
            if (to > at) {
                add(at, WORD, at, to - at);
            }
            if (to < bytes.length && bytes[to] != '<') {
                blame(BAD_BYTE, to);
            }
            return to;
        }

        private int readMark(int at) {
            int sort = sortOfMark(at);
            if (sort == NONE) {
                blame(BAD_MARK, at);
            } else if ((sort == WHEN && open) || (sort == WHEN_ENDS && !open)) {
                blame(BAD_NESTING, at);
            } else {
                addMark(at, sort);
            }
            if (sort == WHEN || sort == WHEN_ENDS) {
                open = sort == WHEN;
            }
            return at + (sort == SUM ? 5 : sort == WHEN ? 4 : 3);
        }

        private void addMark(int at, int sort) {
            switch (sort) {
                case WORD: add(at, sort, at + 1, 1); break;
                case NUMBER: add(at, sort, byteAt(at + 1) - '0', 0); break;
                case SUM: add(at, sort, byteAt(at + 2) - '0', byteAt(at + 3) - '0'); break;
                case KIND: add(at, sort, byteAt(at + 1) - 'a', 0); break;
                case WHEN: add(at, sort, byteAt(at + 2) - '0', 0); break;
                default: add(at, sort, 0, 0); break;
            }
        }

        private void add(int at, int sort, int first, int second) {
            if (count >= sorts.length) {
                blame(TOO_MANY_ITEMS, at);
                return;
            }
            sorts[count] = sort;
            firsts[count] = first;
            seconds[count] = second;
            count++;
        }

        private int sortOfMark(int at) {
            int c = byteAt(at + 1);
            if (c == '?') {
                return isIndex(at + 2) && byteAt(at + 3) == '>' ? WHEN : NONE;
            }
            if (c == '+') {
                return isIndex(at + 2) && isIndex(at + 3) && byteAt(at + 4) == '>' ? SUM : NONE;
            }
            if (byteAt(at + 2) != '>') {
                return NONE;
            }
            switch (c) {
                case 'n': return NAME;
                case '=': return PLACE;
                case '!': return WHEN_ENDS;
                case '<': return WORD;
                default: break;
            }
            if (isIndex(at + 1)) {
                return NUMBER;
            }
            return c >= 'a' && c < 'a' + KINDS ? KIND : NONE;
        }

        private boolean isIndex(int at) {
            return byteAt(at) >= '0' && byteAt(at) < '0' + NUMBERS;
        }

        private int byteAt(int at) {
            return elementOf(bytes, at);
        }

        private void blame(int found, int place) {
            if (flaw == 0) {
                flaw = found;
                flawPlace = place;
            }
        }
    }

    /** What a hand made of a piece, and what was made as it came; never changed, so texts can share it. */
    private static final class Hand {
        final int[] row;
        final int[] base;

        Hand(int[] row, int[] base) {
            this.row = row;
            this.base = base;
        }
    }

    private static final class Piece {
        Thing thing;
        int item;
        int sort;
        int number;
        /** The items by which the uses around were made, five bits each: with the thing it tells the use. */
        int way;
        int start;
        int length;
        Hand byHand;
        boolean lost;

        Piece(Thing thing) {
            this.thing = thing;
        }

        int shownLength() {
            return byHand == null ? length : byHand.row.length;
        }

        boolean hasMakerOf(Piece other) {
            return thing == other.thing && item == other.item && sort == other.sort && way == other.way;
        }
    }

    private static final class Text {
        private final Piece[] pieces = new Piece[MOST_PIECES];
        private final int[] made = new int[MOST_MADE];
        private int bytes;
        int count;
        boolean full;

        void clear() {
            bytes = 0;
            count = 0;
            full = false;
        }

        Piece at(int p) {
            return p >= 0 && p < count ? pieces[p] : null;
        }

        void open(Thing thing, int item, int sort, int number, int way) {
            if (count >= MOST_PIECES) {
                full = true;
                return;
            }
            if (pieces[count] == null) {
                pieces[count] = new Piece(thing);
            }
            Piece piece = pieces[count];
            piece.thing = thing;
            piece.item = item;
            piece.sort = sort;
            piece.number = number;
            piece.way = way;
            piece.start = bytes;
            piece.length = 0;
            piece.byHand = null;
            count++;
        }

        void putMade(int[] row, int from, int length) {
            boolean inRow = from >= 0 && length >= 0 && from + length <= row.length;
            if (full || count == 0 || !inRow || bytes + length > MOST_MADE) {
                full = true;
                return;
            }
            System.arraycopy(row, from, made, bytes, length);
            bytes += length;
            pieces[count - 1].length = length;
        }

        int madeByte(Piece piece, int i) {
            return i >= 0 && i < piece.length ? elementOf(made, piece.start + i) : NONE;
        }

        int shownByte(Piece piece, int i) {
            return piece.byHand == null ? madeByte(piece, i) : elementOf(piece.byHand.row, i);
        }

        boolean madeIs(Piece piece, int[] row) {
            boolean alike = piece.length == row.length;
            for (int i = 0; i < row.length && alike; i++) {
                alike = madeByte(piece, i) == row[i];
            }
            return alike;
        }

        int[] copyOfMade(Piece piece) {
            int[] row = new int[piece.length];
            for (int i = 0; i < row.length; i++) {
                row[i] = madeByte(piece, i);
            }
            return row;
        }

        /** A hand's text like the made one is never kept, so the base alone tells a clash. */
        boolean isClash(Piece piece) {
            return piece.byHand != null && !madeIs(piece, piece.byHand.base);
        }

        int countClashes() {
            int clashes = 0;
            for (int p = 0; p < count; p++) {
                if (isClash(pieces[p])) {
                    clashes++;
                }
            }
            return clashes;
        }

        int shownBefore(int p) {
            int sum = 0;
            for (int i = 0; i < p && i < count; i++) {
                sum += pieces[i].shownLength();
            }
            return sum;
        }

        int showing(int place) {
            int left = place;
            for (int p = 0; p < count && left >= 0; p++) {
                int length = pieces[p].shownLength();
                if (left < length) {
                    return p;
                }
                left -= length;
            }
            return NONE;
        }

        /** Marks as lost those of the old pieces whose hand's text nobody here takes over: how many. */
        int takeHands(Text old) {
            int lost = 0;
            int next = 0;
            for (int p = 0; p < old.count; p++) {
                Piece was = old.pieces[p];
                int at = was.byHand == null ? NONE : find(was, next);
                was.lost = was.byHand != null && at == NONE;
                if (was.lost) {
                    lost++;
                }
                if (at != NONE) {
                    pieces[at].byHand = madeIs(pieces[at], was.byHand.row) ? null : was.byHand;
                    next = at;
                }
            }
            return lost;
        }

        /** Begins at a guess, as pieces mostly come in the order that they had. */
        private int find(Piece sought, int guess) {
            for (int i = 0; i < count; i++) {
                int p = guess + i < count ? guess + i : guess + i - count;
                if (pieces[p].hasMakerOf(sought)) {
                    return p;
                }
            }
            return NONE;
        }

        int countUnlike(Text other) {
            int both = Math.min(count, other.count);
            int unlike = Math.max(count, other.count) - both;
            for (int p = 0; p < both; p++) {
                if (!showsLike(pieces[p], other, other.pieces[p])) {
                    unlike++;
                }
            }
            return unlike;
        }

        private boolean showsLike(Piece piece, Text other, Piece its) {
            int length = piece.shownLength();
            boolean alike = length == its.shownLength();
            for (int i = 0; i < length && alike; i++) {
                alike = shownByte(piece, i) == other.shownByte(its, i);
            }
            return alike;
        }
    }

    private static final class Making {
        private final int[] digits = new int[MOST_SUM_DIGITS];
        private final Rule[] rules;
        private Text target;
        private int uses;

        Making(Rule[] rules, Text target) {
            this.rules = rules;
            this.target = target;
        }

        void fill(Text text, Thing ground) {
            target = text;
            uses = 0;
            text.clear();
            for (int i = 0; i < ground.parts.size() && !text.full; i++) {
                makeUse(ground.parts.get(i), 0, 1);
            }
        }

        private void makeUse(Thing thing, int way, int depth) {
            if (uses >= MOST_USES || depth > MOST_DEEP || !isKind(thing.kind)) {
                target.full = true;
                return;
            }
            uses++;
            Rule rule = rules[thing.kind];
            boolean skipping = false;
            for (int item = 0; item < rule.count && !target.full; item++) {
                int sort = rule.sorts[item];
                if (sort == WHEN) {
                    skipping = elementOf(thing.numbers, rule.firsts[item]) <= 0;
                } else if (sort == WHEN_ENDS) {
                    skipping = false;
                } else if (!skipping && sort == KIND) {
                    makeParts(thing, rule.firsts[item], way * 32 + item, depth);
                } else if (!skipping) {
                    makePiece(thing, rule, item, way);
                }
            }
        }

        private void makeParts(Thing thing, int kind, int way, int depth) {
            for (int i = 0; i < thing.parts.size() && !target.full; i++) {
                Thing part = thing.parts.get(i);
                if (part.kind == kind) {
                    makeUse(part, way, depth + 1);
                }
            }
        }

        private void makePiece(Thing thing, Rule rule, int item, int way) {
            int sort = rule.sorts[item];
            int first = rule.firsts[item];
            int second = rule.seconds[item];
            target.open(thing, item, sort, first, way);
            if (sort == WORD) {
                target.putMade(rule.bytes, first, second);
            } else if (sort == NAME) {
                target.putMade(thing.letters, 0, thing.letters.length);
            } else if (sort == NUMBER || sort == SUM) {
                int more = sort == SUM ? elementOf(thing.numbers, second) : 0;
                int from = spell(elementOf(thing.numbers, first) + more);
                target.putMade(digits, from, MOST_SUM_DIGITS - from);
            }
        }

        /** Writes a number at the end of the digits: where it begins. */
        private int spell(int value) {
            int from = MOST_SUM_DIGITS;
            int rest = value;
            do {
                from--;
                digits[from] = '0' + rest % 10;
                rest /= 10;
            } while (from > 0 && rest > 0);
            return from;
        }
    }

    private static final class Lone {
        final int[] row;
        final int sort;
        final int item;

        Lone(int[] row, int sort, int item) {
            this.row = row;
            this.sort = sort;
            this.item = item;
        }
    }

    private static final class LoneTexts {
        final ArrayList<Lone> list = new ArrayList<>();
        int fallen;

        Lone at(int l) {
            return l >= 0 && l < list.size() ? list.get(l) : null;
        }

        void keepLost(Text old) {
            for (int p = 0; p < old.count; p++) {
                Piece piece = old.at(p);
                if (piece != null && piece.lost && piece.byHand != null) {
                    keep(new Lone(piece.byHand.row, piece.sort, piece.item));
                }
            }
        }

        private void keep(Lone lone) {
            if (list.size() >= MOST_LONE) {
                list.remove(0);
                fallen++;
            }
            list.add(lone);
        }

        boolean remove(int l) {
            if (l < 0 || l >= list.size()) {
                return false;
            }
            list.remove(l);
            return true;
        }
    }
}
