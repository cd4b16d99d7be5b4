import java.util.ArrayList;
import java.util.HashMap;
import java.util.List;
import java.util.Map;
import java.util.Random;
import java.util.TreeMap;
import java.util.regex.Matcher;
import java.util.regex.Pattern;

/** Runs of calls with fixed seeds, against a workshop written in the plainest way; and wild arguments. */
public final class RandomRunsTest {
    private static final int RUNS = 16000;
    private static final int MOST_CALLS = 512;
    private static final int WILD_RUNS = 300;
    private static int wrong = 0;
    private static final TreeMap<String, Integer> seen = new TreeMap<>();

    public static void main(String[] args) {
        for (int seed = 0; seed < RUNS && wrong == 0; seed++) {
            new Run(seed).play();
        }
        for (int seed = 0; seed < WILD_RUNS && wrong == 0; seed++) {
            wild(seed);
        }
        // Runs that never come to these would show nothing of them.
        for (String what : new String[] {"full", "clash", "lone", "fallen", "took 0", "took 1", "back", "back full",
            "touch full", "touch lone", "touch clash", "fault 1", "fault 2", "fault 3", "fault 4", "fault 5", "used again"}) {
            if (wrong == 0 && !seen.containsKey(what)) {
                wrong++;
                System.out.println("no run came to: " + what);
            }
        }
        System.out.println((wrong == 0 ? "all answers are as due" : wrong + " answers are not as due") + "; seen: " + seen);
        if (wrong != 0) {
            System.exit(1);
        }
    }

    private static void saw(String what) {
        seen.merge(what, 1, Integer::sum);
    }

    private static void wild(int seed) {
        Random r = new Random(seed);
        MadeMended x = new MadeMended();
        int[] odd = {Integer.MIN_VALUE, Integer.MIN_VALUE + 1, -100, -2, -1, 0, 1, 2, 3, 4, 7, 8, 23, 24, 60, 61, 100,
            119, 120, 121, 249, 250, 99999, 100000, Integer.MAX_VALUE - 1, Integer.MAX_VALUE};
        try {
            int left = MOST_CALLS;
            while (left > 1) {
                int[] a = new int[5];
                for (int k = 0; k < 5; k++) {
                    a[k] = r.nextInt(3) == 0 ? r.nextInt() : r.nextBoolean() ? odd[r.nextInt(odd.length)] : r.nextInt(8) - 1;
                }
                left -= callAny(x, r.nextInt(23), a);
            }
        } catch (RuntimeException thrown) {
            wrong++;
            System.out.println("wild run " + seed + " threw " + thrown);
        }
    }

    /** How many calls it made. */
    private static int callAny(MadeMended x, int which, int[] a) {
        switch (which) {
            case 0: x.feed(0x61413C6E, 0x3E3C303E, a[2], a[3], a[4]); return 1;
            case 1: x.end(a[0]); return 1;
            case 2: x.end(1); x.thing(a[0], a[1]); return 2;
            case 3: x.number(a[0], a[1], a[2]); return 1;
            case 4: x.name(a[0]); return 1;
            case 5: x.move(a[0], a[1]); return 1;
            case 6: x.drop(a[0]); return 1;
            case 7: x.end(8); x.rule(a[0]); return 2;
            case 8: x.fault(a[0]); return 1;
            case 9: x.make(); return 1;
            case 10: x.piece(a[0], a[1]); return 1;
            case 11: x.byteOf(a[0], a[1], a[2]); return 1;
            case 12: x.hand(a[0]); return 1;
            case 13: x.take(a[0], a[1]); return 1;
            case 14: x.back(a[0]); return 1;
            case 15: x.touch(a[0], a[1], a[2], a[3]); return 1;
            case 16: x.text(a[0]); return 1;
            case 17: x.maker(a[0]); return 1;
            case 18: x.lone(a[0], a[1], a[2]); return 1;
            case 19: x.drops(a[0]); return 1;
            case 20: x.thingOf(a[0], a[1]); return 1;
            case 21: x.about(a[0]); return 1;
            default: x.thing(0, -1); return 1;
        }
    }

    // ---- a run

    private interface Call {
        Object on(MadeMended x);
    }

    private static final class Run {
        final int seed;
        final Random r;
        final MadeMended x = new MadeMended();
        final Plain o = new Plain();
        final List<Call> calls = new ArrayList<>();
        final List<String> told = new ArrayList<>();
        MadeMended asked;
        int left = 0;

        Run(int seed) {
            this.seed = seed;
            this.r = new Random(seed);
        }

        void due(String call, Call c, Object want) {
            calls.add(c);
            Object got = c.on(x);
            told.add(call + " = " + got);
            hold(call, got, want);
        }

        void hold(String call, Object got, Object want) {
            if (!got.equals(want)) {
                wrong++;
                System.out.println("run " + seed + ": " + call + " answered " + got + ", due is " + want);
                for (String c : told) {
                    System.out.println("    " + c);
                }
            }
        }

        void tape(String text) {
            if (!o.tape.isEmpty() && r.nextInt(12) > 0) {
                due("end 0", x -> x.end(0), o.end(0));
            }
            int had = o.tape.length();
            for (int from = 0; from < text.length(); from += 20) {
                int[] w = new int[5];
                StringBuilder part = new StringBuilder();
                for (int i = 0; i < 20; i++) {
                    int b = from + i < text.length() ? text.charAt(from + i) : 0;
                    part.append((char) b);
                    w[i / 4] |= b << (24 - i % 4 * 8);
                }
                due("feed " + part, x -> x.feed(w[0], w[1], w[2], w[3], w[4]), o.feed(part.toString()));
            }
            due("end", x -> x.end(had + text.length()), o.end(had + text.length()));
        }

        int someThing() {
            return r.nextInt(8) == 0 ? r.nextInt(27) - 2 : r.nextInt(Math.max(1, o.things.size() + 1));
        }

        int somePiece() {
            return r.nextInt(20) == 0 ? r.nextInt(260) - 2 : r.nextInt(o.pieces.size() + 1);
        }

        int someNumber() {
            int[] some = {0, 0, 1, 1, 2, 9, 10, 50000, 99999, 100000, -1};
            return some[r.nextInt(some.length)];
        }

        String someName() {
            String letters = "abzABZ";
            int n = r.nextInt(12) == 0 ? r.nextInt(9) : 1 + r.nextInt(6);
            StringBuilder s = new StringBuilder();
            for (int i = 0; i < n; i++) {
                s.append(r.nextInt(60) == 0 ? '1' : letters.charAt(r.nextInt(6)));
            }
            return s.toString();
        }

        String someRule() {
            String[] good = {"w", "ab ", "<n>", "<0>", "<1>", "<2>", "<3>", "<+01>", "<+23>", "<=>", "<=>", "<a>", "<b>",
                "<c>", "<a>", "<b>", "<c>", "<<>", ">", "<0>"};
            String[] bad = {"<?0>", "<!>", "<", "<4>", "\u0001", "\u007f", "\u00ff", "<+0>", "<nn>", "<i>"};
            // Some runs have long rules throughout, as texts are hardly ever FULL otherwise.
            int n = seed % 4 == 2 ? 4 + r.nextInt(10) : r.nextInt(4) == 0 ? r.nextInt(20) : r.nextInt(7);
            boolean faulty = r.nextInt(8) == 0;
            StringBuilder s = new StringBuilder();
            for (int i = 0; i < n && s.length() < 110; i++) {
                if (faulty && r.nextInt(8) == 0) {
                    s.append(bad[r.nextInt(bad.length)]);
                } else if (r.nextInt(8) == 0) {
                    int j = r.nextInt(4);
                    s.append("<").append(j).append("><?").append(j).append(">");
                    for (int k = r.nextInt(5); k >= 0; k--) {
                        s.append(good[r.nextInt(good.length)]);
                    }
                    s.append(r.nextInt(15) == 0 ? "" : "<!>");
                } else {
                    s.append(good[r.nextInt(good.length)]);
                }
            }
            return s.length() > 120 ? s.substring(0, 120) : s.toString();
        }

        String someHand() {
            String[] some = {"", "0", "1", "2", "9", "10", "99999", "100000", "01", "w", "hello", "\u00ff\u0000", "a", "50000"};
            return r.nextInt(25) == 0 ? "q".repeat(58 + r.nextInt(5)) : some[r.nextInt(some.length)];
        }

        void thing(int kind, int in) {
            tape(someName());
            due("thing " + kind + " " + in, x -> x.thing(kind, in), o.thing(kind, in));
        }

        void number(int t, int j, int v) {
            due("number " + t + " " + j + " " + v, x -> x.number(t, j, v), o.number(t, j, v));
        }

        void rule(int kind) {
            tape(someRule());
            due("rule " + kind, x -> x.rule(kind), o.rule(kind));
        }

        /** A forest to begin with, as some things are only seen in large ones. */
        void plant(int things) {
            for (int i = 0; i < things; i++) {
                thing(r.nextInt(3), r.nextInt(4) == 0 ? -1 : r.nextInt(3 + i / 3));
                number(i, r.nextInt(4), r.nextInt(2));
            }
            for (int kind = 0; kind < 3; kind++) {
                rule(kind);
            }
        }

        /** Ends at some call or other, far enough ahead of the last one that an object is used for. */
        void play() {
            int most = 80 + r.nextInt(340);
            plant(seed % 3 == 0 ? 0 : r.nextInt(24));
            due("make", MadeMended::make, o.make());
            while (calls.size() < most && wrong == 0) {
                // Some runs are of hands, rules and numbers above all, as little comes of one alone.
                step(seed % 4 == 1 && r.nextInt(3) > 0 ? 5 + r.nextInt(12) : r.nextInt(26));
                askSome();
            }
            compare();
        }

        void step(int what) {
            int t = someThing();
            int j = r.nextInt(30) == 0 ? r.nextInt(7) - 2 : r.nextInt(4);
            int v = someNumber();
            int kind = r.nextInt(25) == 0 ? r.nextInt(12) - 2 : r.nextInt(3);
            if (what < 5) {
                thing(kind, r.nextInt(3) == 0 ? -1 : t);
            } else if (what < 8) {
                rule(kind);
            } else if (what < 11) {
                due("make", MadeMended::make, o.make());
            } else if (what < 14) {
                hands(r.nextInt(r.nextInt(4) == 0 ? 40 : 6));
            } else if (what < 17) {
                number(t, j, v);
            } else if (what == 17) {
                tape(someName());
                due("name " + t, x -> x.name(t), o.name(t));
            } else if (what == 18) {
                int k = r.nextInt(6) - 1;
                due("move " + t + " " + k, x -> x.move(t, k), o.move(t, k));
            } else if (what == 19) {
                if (r.nextInt(3) == 0) {
                    due("drop " + t, x -> x.drop(t), o.drop(t));
                }
            } else if (what == 20) {
                clashes();
            } else if (what == 21) {
                numbersBack();
            } else if (what < 25) {
                touches(t, j, v);
            } else {
                int l = r.nextInt(o.lones.size() + 2) - 1;
                due("drops " + l, x -> x.drops(l), o.drops(l));
            }
        }

        boolean isLate() {
            return calls.size() > MOST_CALLS - 90 || wrong > 0;
        }

        void hands(int most) {
            for (int n = 0; n <= most && !isLate(); n++) {
                tape(someHand());
                int p = somePiece();
                due("hand " + p, x -> x.hand(p), o.hand(p));
            }
        }

        void clashes() {
            for (int n = -1; n <= o.pieces.size() && !isLate(); n++) {
                int p = n;
                int which = r.nextInt(12) == 0 ? r.nextInt(5) - 2 : r.nextInt(2);
                if (o.piece(p, 6) == 1 ? r.nextBoolean() : r.nextInt(30) == 0) {
                    due("take " + p + " " + which, x -> x.take(p, which), o.take(p, which));
                }
            }
        }

        void numbersBack() {
            int most = o.pieces.size();
            for (int n = -1; n <= most && !isLate(); n++) {
                int p = n;
                if (o.piece(p, 5) == 1 && o.piece(p, 2) == 2 ? r.nextBoolean() : r.nextInt(30) == 0) {
                    due("back " + p, x -> x.back(p), o.back(p));
                }
            }
        }

        void touches(int t, int j, int v) {
            for (int w = -1; w < 5; w++) {
                int what = w;
                due("touch " + t + " " + j + " " + v + " " + w, x -> x.touch(t, j, v, what), o.touch(t, j, v, what));
            }
        }

        /** A question between the calls, so that one that changes something is seen. */
        void askSome() {
            int p = somePiece();
            int t = someThing();
            int what = r.nextInt(10);
            int at = r.nextInt(o.shown().length() + 2) - 1;
            switch (r.nextInt(4)) {
                case 0: due("about " + what, x -> x.about(what), o.about(what)); break;
                case 1: due("piece " + p + " " + what, x -> x.piece(p, what), o.piece(p, what)); break;
                case 2: due("thingOf " + t + " " + what, x -> x.thingOf(t, what), o.thingOf(t, what)); break;
                default: due("text " + at, x -> x.text(at), Plain.charOf(o.shown(), at)); break;
            }
        }

        /** Asks objects to which all the calls came anew, as none is used for more calls than it is promised for. */
        void same(String question, Call c, int want) {
            if (left == 0) {
                asked = new MadeMended();
                for (Call call : calls) {
                    call.on(asked);
                }
                left = MOST_CALLS - calls.size();
            }
            left--;
            int got = (int) c.on(asked);
            if (got != want) {
                hold(question, got, want);
            }
        }

        void compare() {
            left = 0;
            for (int n = -1; n < 19; n++) {
                int what = n;
                same("about", x -> x.about(what), o.about(what));
                same("fault", x -> x.fault(what), o.fault(what));
            }
            for (int n = -1; n < 25; n++) {
                int t = n;
                for (int what : new int[] {0, 1, 2, 3, 4, 9, 10, 11, 12, 13, 14, 99, 100, 101, 102, 103, 104, 105, 106}) {
                    same("thingOf", x -> x.thingOf(t, what), o.thingOf(t, what));
                }
            }
            comparePieces();
            String shown = o.shown();
            for (int n = -1; n <= shown.length(); n++) {
                int at = n;
                same("text", x -> x.text(at), Plain.charOf(shown, at));
                same("maker", x -> x.maker(at), o.maker(at));
            }
            compareLones();
        }

        void compareLones() {
            for (int n = -1; n <= o.lones.size(); n++) {
                int l = n;
                for (int what = 1; what < 5; what++) {
                    int w = what;
                    same("lone", x -> x.lone(l, w, 0), o.lone(l, w, 0));
                }
                for (int k = -1; k <= Math.max(0, o.lone(l, 3, 0)); k++) {
                    int i = k;
                    same("lone", x -> x.lone(l, 0, i), o.lone(l, 0, i));
                }
            }
        }

        void comparePieces() {
            for (int n = -1; n <= o.pieces.size(); n++) {
                int p = n;
                for (int what = 0; what < 10; what++) {
                    int w = what;
                    same("piece", x -> x.piece(p, w), o.piece(p, w));
                }
                int most = Math.max(o.piece(p, 3), o.piece(p, 4));
                for (int what = 0; what < 4; what++) {
                    for (int k = -1; k <= most; k++) {
                        int w = what;
                        int i = k;
                        same("byteOf", x -> x.byteOf(p, w, i), o.byteOf(p, w, i));
                    }
                }
            }
        }
    }

    // ---- the plainest workshop

    private static final class PlainThing {
        int id;
        int number;
        int kind;
        int in;
        String name;
        int[] numbers = new int[4];
    }

    private static final class PlainPiece {
        String maker;
        int thingId;
        int kind;
        int item;
        int sort;
        int j;
        int uses;
        String made;
        String hand;
        String base;

        String shown() {
            return hand != null ? hand : made;
        }

        boolean clash() {
            return hand != null && !base.equals(made) && !hand.equals(made);
        }

        PlainPiece copy() {
            PlainPiece p = new PlainPiece();
            p.maker = maker;
            p.thingId = thingId;
            p.kind = kind;
            p.item = item;
            p.sort = sort;
            p.j = j;
            p.uses = uses;
            p.made = made;
            p.hand = hand;
            p.base = base;
            return p;
        }
    }

    private static final class Full extends Exception {
        private static final long serialVersionUID = 1L;
    }

    private static final class Plain {
        static final Pattern MARK = Pattern.compile(
            "<n>|<[0-3]>|<\\+[0-3][0-3]>|<=>|<[a-h]>|<\\?[0-3]>|<!>|<<>");

        String tape = "";
        /** All that are there, in the order in which siblings stand. */
        List<PlainThing> things = new ArrayList<>();
        List<List<String>> rules = new ArrayList<>();
        List<PlainPiece> pieces = new ArrayList<>();
        List<PlainPiece> lones = new ArrayList<>();
        int fallen = 0;
        int born = 0;
        int flaw = -1;
        int flawPlace = -1;
        int usesMade = 0;

        Plain() {
            for (int k = 0; k < 8; k++) {
                rules.add(new ArrayList<>());
            }
        }

        int feed(String twenty) {
            if (tape.length() + 20 > 120) {
                return -1;
            }
            tape += twenty;
            return tape.length();
        }

        int end(int n) {
            if (n < 0 || n > tape.length()) {
                return -1;
            }
            tape = tape.substring(0, n);
            return n;
        }

        PlainThing get(int t) {
            for (PlainThing p : things) {
                if (p.number == t) {
                    return p;
                }
            }
            return null;
        }

        int depth(PlainThing t) {
            return t == null ? 0 : 1 + depth(get(t.in));
        }

        List<PlainThing> in(int t) {
            List<PlainThing> list = new ArrayList<>();
            for (PlainThing p : things) {
                if (p.in == t) {
                    list.add(p);
                }
            }
            return list;
        }

        int thing(int kind, int in) {
            if (!tape.matches("[a-zA-Z]{1,6}") || kind < 0 || kind > 7 || (in != -1 && get(in) == null)
                || depth(get(in)) >= 6 || things.size() == 24) {
                return -1;
            }
            PlainThing t = new PlainThing();
            while (get(t.number) != null) {
                t.number++;
            }
            t.id = born++;
            if (t.number < t.id) {
                saw("used again");
            }
            t.kind = kind;
            t.in = in;
            t.name = tape;
            tape = "";
            things.add(t);
            return t.number;
        }

        boolean number(int t, int j, int v) {
            if (get(t) == null || j < 0 || j > 3 || v < 0 || v > 99999) {
                return false;
            }
            get(t).numbers[j] = v;
            return true;
        }

        boolean name(int t) {
            if (get(t) == null || !tape.matches("[a-zA-Z]{1,6}")) {
                return false;
            }
            get(t).name = tape;
            tape = "";
            return true;
        }

        boolean move(int t, int k) {
            PlainThing thing = get(t);
            if (thing == null || k < 0 || k >= in(thing.in).size()) {
                return false;
            }
            List<PlainThing> beside = in(thing.in);
            beside.remove(thing);
            beside.add(k, thing);
            things.removeAll(beside);
            things.addAll(beside);
            return true;
        }

        int drop(int t) {
            if (get(t) == null) {
                return -1;
            }
            int n = 1;
            for (PlainThing part : in(t)) {
                n += drop(part.number);
            }
            things.remove(get(t));
            return n;
        }

        int rule(int kind) {
            if (kind < 0 || kind > 7) {
                return -1;
            }
            List<String> items = read(tape);
            tape = "";
            if (flaw != 0) {
                saw("fault " + flaw);
                return -1;
            }
            rules.set(kind, items);
            return items.size();
        }

        /** Every fault that there is up to the first bad mark goes into a map by place, and the first one counts. */
        List<String> read(String s) {
            TreeMap<Integer, Integer> faults = new TreeMap<>();
            List<String> items = new ArrayList<>();
            for (int i = 0; i < s.length(); i++) {
                if (s.charAt(i) < 32 || s.charAt(i) > 126) {
                    faults.merge(i, 1, Math::min);
                }
            }
            boolean open = false;
            int at = 0;
            while (at < s.length()) {
                String item;
                Matcher m = MARK.matcher(s).region(at, s.length());
                if (s.charAt(at) != '<') {
                    int to = s.indexOf('<', at);
                    item = "w" + s.substring(at, to < 0 ? s.length() : to);
                    at += item.length() - 1;
                } else if (m.lookingAt()) {
                    item = m.group();
                    if (item.startsWith("<?") ? open : item.equals("<!>") && !open) {
                        faults.merge(at, 3, Math::min);
                    }
                    open = item.startsWith("<?") || (open && !item.equals("<!>"));
                    at += item.length();
                } else {
                    faults.merge(at, 2, Math::min);
                    break;
                }
                items.add(item);
                if (items.size() == 21) {
                    faults.merge(at - (item.startsWith("<") ? item.length() : item.length() - 1), 5, Math::min);
                }
            }
            if (open) {
                faults.merge(s.length(), 4, Math::min);
            }
            flaw = faults.isEmpty() ? 0 : faults.firstEntry().getValue();
            flawPlace = faults.isEmpty() ? -1 : faults.firstKey();
            return items;
        }

        int fault(int what) {
            return what == 0 ? flaw : what == 1 && flaw >= 0 ? flawPlace : -1;
        }

        List<PlainPiece> made() throws Full {
            List<PlainPiece> list = new ArrayList<>();
            usesMade = 0;
            for (PlainThing t : in(-1)) {
                use(t, "", 1, list);
            }
            return list;
        }

        void use(PlainThing t, String around, int uses, List<PlainPiece> list) throws Full {
            if (++usesMade > 2000) {
                throw new Full();
            }
            boolean on = true;
            List<String> items = rules.get(t.kind);
            for (int i = 0; i < items.size(); i++) {
                String item = items.get(i);
                if (item.startsWith("<?")) {
                    on = t.numbers[item.charAt(2) - '0'] > 0;
                } else if (item.equals("<!>")) {
                    on = true;
                } else if (on && item.matches("<[a-h]>")) {
                    for (PlainThing part : in(t.number)) {
                        if (part.kind == item.charAt(1) - 'a') {
                            use(part, around + t.id + "." + i + "/", uses + 1, list);
                        }
                    }
                } else if (on) {
                    list.add(newPiece(t, item, i, around, uses));
                    int bytes = 0;
                    for (PlainPiece p : list) {
                        bytes += p.made.length();
                    }
                    if (list.size() > 250 || bytes > 3000) {
                        throw new Full();
                    }
                }
            }
        }

        PlainPiece newPiece(PlainThing t, String item, int i, String around, int uses) {
            PlainPiece p = new PlainPiece();
            p.thingId = t.id;
            p.kind = t.kind;
            p.item = i;
            p.uses = uses;
            if (item.startsWith("w")) {
                p.made = item.substring(1);
            } else if (item.equals("<<>")) {
                p.made = "<";
            } else if (item.equals("<n>")) {
                p.sort = 1;
                p.made = t.name;
            } else if (item.equals("<=>")) {
                p.sort = 4;
                p.made = "";
            } else if (item.startsWith("<+")) {
                p.sort = 3;
                p.made = "" + (t.numbers[item.charAt(2) - '0'] + t.numbers[item.charAt(3) - '0']);
            } else {
                p.sort = 2;
                p.j = item.charAt(1) - '0';
                p.made = "" + t.numbers[p.j];
            }
            p.maker = around + t.id + "#" + i + ":" + p.sort;
            return p;
        }

        int make() {
            List<PlainPiece> fresh;
            try {
                fresh = made();
            } catch (Full full) {
                saw("full");
                return -1;
            }
            Map<String, PlainPiece> byMaker = new HashMap<>();
            for (PlainPiece p : fresh) {
                byMaker.put(p.maker, p);
            }
            for (PlainPiece old : pieces) {
                PlainPiece p = byMaker.get(old.maker);
                if (old.hand == null) {
                    continue;
                }
                if (p == null) {
                    saw("lone");
                    lones.add(old);
                } else if (!old.hand.equals(p.made)) {
                    p.hand = old.hand;
                    p.base = old.base;
                    if (p.clash()) {
                        saw("clash");
                    }
                }
            }
            while (lones.size() > 30) {
                saw("fallen");
                lones.remove(0);
                fallen++;
            }
            pieces = fresh;
            return pieces.size();
        }

        int numberOfThing(int id) {
            for (PlainThing t : things) {
                if (t.id == id) {
                    return t.number;
                }
            }
            return -1;
        }

        PlainPiece at(int p) {
            return p < 0 || p >= pieces.size() ? null : pieces.get(p);
        }

        int piece(int n, int what) {
            PlainPiece p = at(n);
            if (p == null || what < 0 || what > 8) {
                return -1;
            }
            int[] all = {numberOfThing(p.thingId), p.item, p.sort, p.shown().length(), p.made.length(),
                p.hand == null ? 0 : 1, p.clash() ? 1 : 0, p.uses, p.kind};
            return all[what];
        }

        static int charOf(String s, int i) {
            return s == null || i < 0 || i >= s.length() ? -1 : s.charAt(i);
        }

        int byteOf(int n, int what, int i) {
            PlainPiece p = at(n);
            if (p == null || what < 0 || what > 2) {
                return -1;
            }
            return charOf(what == 0 ? p.shown() : what == 1 ? p.made : p.hand == null ? null : p.base, i);
        }

        boolean hand(int n) {
            PlainPiece p = at(n);
            if (p == null || tape.length() > 60) {
                return false;
            }
            p.hand = tape.equals(p.made) ? null : tape;
            p.base = p.made;
            tape = "";
            return true;
        }

        boolean take(int n, int which) {
            PlainPiece p = at(n);
            if (p == null || !p.clash() || (which != 0 && which != 1)) {
                return false;
            }
            saw("took " + which);
            p.base = p.made;
            p.hand = which == 0 ? p.hand : null;
            return true;
        }

        int back(int n) {
            PlainPiece p = at(n);
            if (p == null || p.sort != 2 || p.hand == null || !p.hand.matches("0|[1-9][0-9]{0,4}")
                || numberOfThing(p.thingId) < 0) {
                return -1;
            }
            PlainThing t = get(numberOfThing(p.thingId));
            int before = t.numbers[p.j];
            String hand = p.hand;
            t.numbers[p.j] = Integer.parseInt(hand);
            p.hand = null;
            int answer = make();
            if (answer < 0) {
                saw("back full");
                t.numbers[p.j] = before;
                p.hand = hand;
            } else {
                saw("back");
            }
            return answer;
        }

        int touch(int t, int j, int v, int what) {
            if (what < 0 || what > 3 || get(t) == null || j < 0 || j > 3 || v < 0 || v > 99999) {
                return -1;
            }
            List<PlainPiece> old = pieces;
            List<PlainPiece> oldLones = lones;
            int oldFallen = fallen;
            int before = get(t).numbers[j];
            pieces = new ArrayList<>();
            for (PlainPiece p : old) {
                pieces.add(p.copy());
            }
            lones = new ArrayList<>();
            get(t).numbers[j] = v;
            int count = make();
            int more = lones.size() + fallen - oldFallen;
            List<PlainPiece> fresh = pieces;
            get(t).numbers[j] = before;
            pieces = old;
            lones = oldLones;
            fallen = oldFallen;
            if (count < 0) {
                saw("touch full");
                return -1;
            }
            int unlike = Math.abs(fresh.size() - old.size());
            int clashes = 0;
            for (int p = 0; p < fresh.size(); p++) {
                clashes += fresh.get(p).clash() ? 1 : 0;
                unlike += p < old.size() && !old.get(p).shown().equals(fresh.get(p).shown()) ? 1 : 0;
            }
            if (more > 0) {
                saw("touch lone");
            }
            if (clashes > 0) {
                saw("touch clash");
            }
            return new int[] {unlike, clashes, more, count}[what];
        }

        String shown() {
            StringBuilder s = new StringBuilder();
            for (PlainPiece p : pieces) {
                s.append(p.shown());
            }
            return s.toString();
        }

        int maker(int at) {
            if (at < 0) {
                return -1;
            }
            int past = 0;
            for (int p = 0; p < pieces.size(); p++) {
                past += pieces.get(p).shown().length();
                if (at < past) {
                    return p;
                }
            }
            return -1;
        }

        int lone(int l, int what, int i) {
            if (l < 0 || l >= lones.size() || what < 0 || what > 3) {
                return -1;
            }
            PlainPiece p = lones.get(l);
            return what == 0 ? charOf(p.hand, i) : new int[] {0, p.sort, p.item, p.hand.length()}[what];
        }

        boolean drops(int l) {
            if (l < 0 || l >= lones.size()) {
                return false;
            }
            lones.remove(l);
            return true;
        }

        int thingOf(int n, int what) {
            PlainThing t = get(n);
            if (t == null) {
                return -1;
            }
            if (what >= 0 && what < 4) {
                return new int[] {t.kind, t.in, in(t.in).indexOf(t), t.name.length()}[what];
            }
            return what >= 10 && what < 14 ? t.numbers[what - 10] : charOf(t.name, what - 100);
        }

        int about(int what) {
            if (what >= 10 && what < 18) {
                return rules.get(what - 10).size();
            }
            if (what < 0 || what > 6) {
                return -1;
            }
            int clashes = 0;
            for (PlainPiece p : pieces) {
                clashes += p.clash() ? 1 : 0;
            }
            return new int[] {things.size(), pieces.size(), shown().length(), clashes, lones.size(), fallen,
                tape.length()}[what];
        }
    }
}
