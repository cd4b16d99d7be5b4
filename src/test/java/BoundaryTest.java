import java.io.IOException;
import java.nio.file.Files;
import java.nio.file.Path;
import java.util.ArrayList;
import java.util.List;
import java.util.Map;
import java.util.TreeMap;

/**
 * For each sentence of the document that names a boundary case, a test of its own: the last value that is allowed and
 * the first that is not, the empty and the full, and that a refused call changes nothing but what the document says.
 */
public final class BoundaryTest {
    private static final int NONE = MadeMended.NONE;
    private static final int LEAST = Integer.MIN_VALUE;
    private static final int MOST = Integer.MAX_VALUE;
    private static int wrong = 0;
    private static String part = "";
    private static final List<String> sentences = new ArrayList<>();

    public static void main(String[] args) throws IOException {
        theModel();
        theRules();
        theFaults();
        theMaking();
        theText();
        promisesOfTheModel();
        promisesOfTheText();
        promisesThatAnswer();
        farArguments();
        quotesStandInTheDocument();
        System.out.println((wrong == 0 ? "all answers are as due" : wrong + " answers are not as due") + "; sentences: "
            + sentences.size());
        if (wrong != 0) {
            System.exit(1);
        }
    }

    private static void theModel() {
        aCallIsThe512th();
        thingsAre24();
        goneNumbersAreUsedAgain();
        namesHaveOneToSixLetters();
        kindsAreEight();
        numbersAreFour();
        thingsHaveAnOrder();
        thingsAreSixDeep();
    }

    private static void theRules() {
        rulesAreBareAtFirst();
        rulesHave120Bytes();
        wordsGoUpToTheNextMark();
        theNameMark();
        theNumberMarks();
        theSumMarks();
        thePlaceMark();
        theKindMarks();
        theWhenMarks();
        theLessMark();
    }

    private static void theFaults() {
        faultsGoByPlaces();
        faultOfAByte();
        faultOfAMark();
        faultOfNesting();
        faultOfAnOpenWhen();
        faultOfThe21stItem();
        faultOfThe21stItemGoesBehindOthers();
    }

    private static void theMaking() {
        thingsInNoneAreMadeInOrder();
        numbersHaveNoZerosAhead();
        makersAreItemsFrom0();
        fullOfPieces();
        fullOfBytes();
        fullOfUses();
        sameByItemAndSort();
        sameByThing();
        sameByUsesAround();
    }

    private static void theText() {
        shownIsTheHandsEvenIfEmpty();
        handLikeTheNew();
        baseLikeTheNew();
        neitherIsAClash();
        noNewPieceIsLone();
        loneTextsAre30();
        nothingIsDoneIfFull();
        takeTheHands();
        takeTheMade();
        backOfNumbers();
        backIfFull();
    }

    private static void promisesOfTheModel() {
        aNewObject();
        feedUpTo120();
        feedBytesInOrder();
        endOfTheTape();
        thingIsRefused();
        numberIsRefused();
        nameIsRefused();
        moveToAPlace();
        dropWithAllInIt();
        ruleIsRefused();
        faultOfTheLatest();
    }

    private static void promisesOfTheText() {
        makeIsRefused();
        pieceOfOthers();
        pieceOfAThingThatIsGone();
        byteOfOthers();
        handOfSixty();
        handLikeTheMade();
        handOnAClash();
        takeIsRefused();
        backIsRefused();
        backLeadsIntoTheWholeText();
    }

    private static void promisesThatAnswer() {
        touchCountsPieces();
        touchCountsClashes();
        touchCountsLoneOnes();
        touchIsRefused();
        textAtAPlace();
        makerAtAPlace();
        loneOfOthers();
        dropsOneByOne();
        thingOfOthers();
        aboutOthers();
    }

    // ---- how the tests speak

    private static void sentence(String quote) {
        part = quote;
        sentences.add(quote);
    }

    private static void due(String what, Object got, Object want) {
        if (!got.equals(want)) {
            wrong++;
            System.out.println("\"" + part + "\": " + what + " answered " + got + ", due is " + want);
        }
    }

    /** A quote that the document does not have would be a test of nothing; without the document it can't be looked at. */
    private static void quotesStandInTheDocument() throws IOException {
        Path doc = Path.of("../shared/DOC.md");
        if (!Files.isReadable(doc)) {
            return;
        }
        String text = Files.readString(doc).replace("&lt;", "<").replace("&gt;", ">").replaceAll("\\s+", " ");
        for (String quote : sentences) {
            part = quote;
            due("stands in the document", text.contains(quote), true);
        }
    }

    private interface Call {
        Object on(MadeMended x);
    }

    /** Answers of an object to which all the calls came: asked of fresh ones, as no object is used for over 512 calls. */
    private static final class Asker {
        final List<Call> calls;
        MadeMended x;
        int left = 0;

        Asker(List<Call> calls) {
            this.calls = calls;
            if (calls.size() > 500) {
                throw new IllegalStateException("too long a test: " + calls.size() + " calls in " + part);
            }
        }

        int ask(Call q) {
            if (left == 0) {
                x = new MadeMended();
                for (Call c : calls) {
                    c.on(x);
                }
                left = 512 - calls.size();
            }
            left--;
            return (int) q.on(x);
        }

        String row(java.util.function.IntFunction<Call> byteAt) {
            StringBuilder s = new StringBuilder();
            for (int i = 0; i < 20000; i++) {
                int b = ask(byteAt.apply(i));
                if (b == NONE) {
                    break;
                }
                s.append((char) b);
            }
            return s.toString();
        }

        String things() {
            StringBuilder s = new StringBuilder().append(ask(x -> x.about(0)));
            for (int n = 0; n < 24; n++) {
                int t = n;
                s.append(" ").append(ask(x -> x.thingOf(t, 0)));
                for (int what : new int[] {1, 2, 3, 10, 11, 12, 13}) {
                    s.append(",").append(ask(x -> x.thingOf(t, what)));
                }
                s.append(row(i -> x -> x.thingOf(t, 100 + i)));
            }
            return s.toString();
        }

        String rules() {
            StringBuilder s = new StringBuilder();
            for (int k = 10; k < 18; k++) {
                int what = k;
                s.append(ask(x -> x.about(what))).append(" ");
            }
            return s.toString();
        }

        String text() {
            StringBuilder s = new StringBuilder();
            for (int what = 1; what <= 3; what++) {
                int w = what;
                s.append(ask(x -> x.about(w))).append(" ");
            }
            int count = ask(x -> x.about(1));
            for (int n = 0; n < count; n++) {
                int p = n;
                s.append("\n");
                for (int what = 0; what < 9; what++) {
                    int w = what;
                    s.append(ask(x -> x.piece(p, w))).append(",");
                }
                for (int what = 0; what < 3; what++) {
                    int w = what;
                    s.append("[").append(row(i -> x -> x.byteOf(p, w, i))).append("]");
                }
            }
            String shown = row(i -> x -> x.text(i));
            s.append("\n").append(shown);
            for (int n = 0; n <= shown.length(); n++) {
                int at = n;
                s.append(" ").append(ask(x -> x.maker(at)));
            }
            return s.toString();
        }

        String lones() {
            int count = ask(x -> x.about(4));
            StringBuilder s = new StringBuilder().append(count).append(" fell ").append(ask(x -> x.about(5)));
            for (int n = 0; n < count; n++) {
                int l = n;
                s.append("\n");
                for (int what = 1; what < 4; what++) {
                    int w = what;
                    s.append(ask(x -> x.lone(l, w, 0))).append(",");
                }
                s.append(row(i -> x -> x.lone(l, 0, i)));
            }
            return s.toString();
        }

        /** The tape's bytes can be seen only where there is a piece that they can be given to. */
        String tape() {
            int length = ask(x -> x.about(6));
            if (ask(x -> x.about(1)) == 0) {
                return "" + length;
            }
            List<Call> more = new ArrayList<>(calls);
            more.add(x -> x.end(Math.min(60, length)));
            more.add(x -> x.hand(0));
            return length + " " + new Asker(more).row(i -> x -> x.byteOf(0, 0, i));
        }
    }

    /** An object with the calls that came to it. */
    private static final class Shop {
        final MadeMended x = new MadeMended();
        final List<Call> calls = new ArrayList<>();

        Object call(Call c) {
            calls.add(c);
            return c.on(x);
        }

        int asInt(Call c) {
            return (int) call(c);
        }

        boolean asBool(Call c) {
            return (boolean) call(c);
        }

        void feed(String twenty) {
            int[] w = new int[5];
            for (int i = 0; i < twenty.length(); i++) {
                w[i / 4] |= twenty.charAt(i) << (24 - i % 4 * 8);
            }
            call(x -> x.feed(w[0], w[1], w[2], w[3], w[4]));
        }

        void tape(String text) {
            call(x -> x.end(0));
            for (int from = 0; from < text.length(); from += 20) {
                feed(text.substring(from, Math.min(from + 20, text.length())));
            }
            call(x -> x.end(text.length()));
        }

        int thing(String name, char kind, int in) {
            tape(name);
            return asInt(x -> x.thing(kind - 'a', in));
        }

        int rule(char kind, String text) {
            tape(text);
            return asInt(x -> x.rule(kind - 'a'));
        }

        boolean hand(int p, String text) {
            tape(text);
            return asBool(x -> x.hand(p));
        }

        boolean name(int t, String text) {
            tape(text);
            return asBool(x -> x.name(t));
        }

        boolean number(int t, int j, int v) {
            return asBool(x -> x.number(t, j, v));
        }

        int make() {
            return asInt(MadeMended::make);
        }

        int back(int p) {
            return asInt(x -> x.back(p));
        }

        int touch(int t, int j, int v, int what) {
            return asInt(x -> x.touch(t, j, v, what));
        }

        Asker asker() {
            return new Asker(calls);
        }

        int ask(Call q) {
            return asker().ask(q);
        }

        String shown() {
            return asker().row(i -> x -> x.text(i));
        }

        String bytes(int p, int what) {
            return asker().row(i -> x -> x.byteOf(p, what, i));
        }

        String lone(int l) {
            return asker().row(i -> x -> x.lone(l, 0, i));
        }

        String nameOf(int t) {
            return asker().row(i -> x -> x.thingOf(t, 100 + i));
        }

        int piece(int p, int what) {
            return ask(x -> x.piece(p, what));
        }

        int about(int what) {
            return ask(x -> x.about(what));
        }

        int thingOf(int t, int what) {
            return ask(x -> x.thingOf(t, what));
        }

        Map<String, String> state() {
            Map<String, String> all = new TreeMap<>();
            Asker now = asker();
            all.put("things", now.things());
            all.put("rules", now.rules());
            all.put("text", now.text());
            all.put("lone", now.lones());
            all.put("tape", now.tape());
            all.put("fault", now.ask(x -> x.fault(0)) + "@" + now.ask(x -> x.fault(1)));
            // What a RULE says can be seen only in what is made of it.
            List<Call> more = new ArrayList<>(calls);
            more.add(MadeMended::make);
            Asker then = new Asker(more);
            all.put("anew", then.text() + then.lones());
            return all;
        }

        /** The call answers this, and of all that can be seen these parts alone may change. */
        void changes(String what, Call c, Object want, String... parts) {
            Map<String, String> before = state();
            due(what, call(c), want);
            Map<String, String> after = state();
            for (String key : before.keySet()) {
                if (!List.of(parts).contains(key)) {
                    due(what + ", then " + key, after.get(key), before.get(key));
                }
            }
        }

        void refuses(String what, Call c) {
            changes(what, c, NONE);
        }

        void denies(String what, Call c) {
            changes(what, c, false);
        }
    }

    /** What a rule of kind a says of the text: items, and its fault at its place. */
    private static String read(String text) {
        Shop s = new Shop();
        int items = s.rule('a', text);
        return items + " " + s.asInt(x -> x.fault(0)) + "@" + s.asInt(x -> x.fault(1));
    }

    /** What is shown of one thing "Nm" of kind a with numbers 1, 20, 300, 4000 and this rule. */
    private static String madeBy(String rule) {
        Shop s = new Shop();
        s.thing("Nm", 'a', NONE);
        int v = 1;
        for (int j = 0; j < 4; j++) {
            s.number(0, j, v * (j + 1));
            v *= 10;
        }
        s.rule('a', rule);
        s.make();
        return s.shown();
    }

    private static Shop oneThing(String rule) {
        Shop s = new Shop();
        s.thing("t", 'a', NONE);
        s.rule('a', rule);
        s.make();
        return s;
    }

    /** A shop in which there is something of every sort that a refused call could spoil. */
    private static Shop busy() {
        Shop s = new Shop();
        s.thing("root", 'a', NONE);
        s.thing("one", 'b', 0);
        s.thing("two", 'b', 0);
        s.thing("gone", 'b', 0);
        s.rule('a', "<n>:<b><0><=>");
        s.rule('b', "<n><1>w<+12><?3>?<!>");
        s.number(1, 1, 7);
        s.make();
        s.hand(2, "ONE");
        s.hand(3, "12");
        s.hand(10, "lost");
        s.hand(15, "kept");
        s.call(x -> x.drop(3));
        s.number(1, 1, 8);
        s.make();
        s.number(2, 3, 5);
        s.name(2, "deux");
        s.rule('h', "<");
        s.tape("abc");
        return s;
    }

    // ---- the foot of "What it is"

    private static void aCallIsThe512th() {
        sentence("An object is used for at most 512 calls after it has been made");
        MadeMended x = new MadeMended();
        x.feed('t' << 24, 0, 0, 0, 0);
        x.end(1);
        x.thing(0, NONE);
        x.feed('<' << 24 | '=' << 16 | '>' << 8, 0, 0, 0, 0);
        x.end(3);
        x.rule(0);
        x.make();
        int calls = 7;
        for (int round = 0; calls + 5 <= 511; round++) {
            due("feed of call " + calls, x.feed(round << 24, 0, 0, 0, 0), 20);
            due("end", x.end(1), 1);
            due("hand", x.hand(0), true);
            due("make", x.make(), 1);
            due("text", x.text(0), round);
            calls += 5;
        }
        for (; calls < 511; calls++) {
            due("about", x.about(1), 1);
        }
        due("call 512", x.text(0), 99);
    }

    // ---- I. the model

    private static void thingsAre24() {
        sentence("THINGS 0 .. 23");
        Shop s = new Shop();
        for (int t = 0; t < 24; t++) {
            due("thing", s.thing("t", 'a', NONE), t);
            due("there are", s.about(0), t + 1);
        }
        s.tape("u");
        s.refuses("the 25th", x -> x.thing(0, NONE));
        s.refuses("the 25th, in another", x -> x.thing(0, 0));
        due("number of the last", s.number(23, 0, 1), true);
        due("its number", s.thingOf(23, 10), 1);
        due("its place", s.thingOf(23, 2), 23);
        s.denies("number of 24", x -> x.number(24, 0, 1));
        s.denies("number of -1", x -> x.number(-1, 0, 1));
        s.denies("name of 24", x -> x.name(24));
        s.denies("name of -1", x -> x.name(-1));
        s.denies("move of 24", x -> x.move(24, 0));
        s.denies("move of -1", x -> x.move(-1, 0));
        s.refuses("drop of 24", x -> x.drop(24));
        s.refuses("drop of -1", x -> x.drop(-1));
        s.refuses("touch of 24", x -> x.touch(24, 0, 0, 3));
        s.refuses("touch of -1", x -> x.touch(-1, 0, 0, 3));
        s.refuses("thingOf 24", x -> x.thingOf(24, 0));
        s.refuses("thingOf -1", x -> x.thingOf(-1, 0));
        due("drop of the last", s.call(x -> x.drop(23)), 1);
        due("room again", s.thing("v", 'a', 0), 23);
        due("it lies in", s.thingOf(23, 1), 0);
    }

    private static void goneNumbersAreUsedAgain() {
        sentence("numbers of ones that are gone are used again, the least first");
        Shop s = new Shop();
        for (int t = 0; t < 6; t++) {
            s.thing("old", 'a', NONE);
            s.number(t, 0, 5);
            s.number(t, 3, 6);
        }
        s.call(x -> x.drop(4));
        s.call(x -> x.drop(0));
        s.call(x -> x.drop(2));
        due("least", s.thing("A", 'b', NONE), 0);
        due("next", s.thing("B", 'b', 0), 2);
        due("next", s.thing("C", 'b', NONE), 4);
        due("then a new one", s.thing("D", 'b', NONE), 6);
        due("nothing of the old name", s.nameOf(0), "A");
        due("number 0", s.thingOf(0, 10), 0);
        due("number 3", s.thingOf(0, 13), 0);
        due("kind", s.thingOf(0, 0), 1);
        due("its place is the last one", s.thingOf(0, 2), 3);
        s.call(x -> x.drop(6));
        due("the last number again", s.thing("E", 'b', NONE), 6);
        s.call(x -> x.drop(0));
        due("with what lay in it both are free", s.thing("F", 'a', NONE), 0);
        due("the second", s.thing("G", 'a', NONE), 2);
    }

    private static void namesHaveOneToSixLetters() {
        sentence("a NAME (1 to 6 letters a .. z, A .. Z)");
        Shop s = new Shop();
        s.thing("t", 'a', NONE);
        for (String good : new String[] {"a", "z", "A", "Z", "abcdef", "zZaAmM", "ABCXYZ"}) {
            due("name " + good, s.name(0, good), true);
            due("is", s.nameOf(0), good);
        }
        due("thing of one letter", s.thing("Q", 'a', NONE), 1);
        due("thing of six", s.thing("QwErTy", 'a', NONE), 2);
        due("its bytes", s.thingOf(2, 3), 6);
        due("its letters", s.nameOf(2), "QwErTy");
        List<String> bad = new ArrayList<>(List.of("", "abcdefg", "a".repeat(20)));
        for (char c : new char[] {'@', '[', '`', '{', '0', '9', ' ', '_', 0, 127, 128, 'a' + 128, 'Z' + 128, 255}) {
            bad.add("" + c);
            bad.add(c + "bcdef");
            bad.add("abcde" + c);
            bad.add("ab" + c + "d");
        }
        for (String name : bad) {
            Shop one = new Shop();
            one.thing("t", 'a', NONE);
            one.tape(name);
            one.denies("name " + name, x -> x.name(0));
            one.refuses("thing " + name, x -> x.thing(0, NONE));
        }
    }

    private static void kindsAreEight() {
        sentence("a KIND (a .. h)");
        Shop s = new Shop();
        for (int kind = 0; kind < 8; kind++) {
            int k = kind;
            s.tape("t");
            due("thing of kind " + k, s.call(x -> x.thing(k, NONE)), k);
            due("its kind", s.thingOf(k, 0), k);
            s.tape("abc<n>".substring(0, k % 2 == 0 ? 6 : 3));
            due("rule", s.call(x -> x.rule(k)), k % 2 == 0 ? 2 : 1);
            due("items", s.about(10 + k), k % 2 == 0 ? 2 : 1);
        }
        s.tape("u");
        for (int kind : new int[] {-1, 8, 'a', LEAST, MOST}) {
            s.refuses("thing of kind " + kind, x -> x.thing(kind, NONE));
            s.refuses("rule of kind " + kind, x -> x.rule(kind));
        }
        s.make();
        due("each by its own rule", s.shown(), "abctabcabctabcabctabcabctabc");
    }

    private static void numbersAreFour() {
        sentence("numbers 0 .. 3 (0 .. 99999)");
        Shop s = new Shop();
        s.thing("t", 'a', NONE);
        s.thing("u", 'a', NONE);
        for (int number = 0; number < 4; number++) {
            int j = number;
            s.changes("most of " + j, x -> x.number(0, j, 99999), true, "things", "anew");
            due("is", s.thingOf(0, 10 + j), 99999);
            due("of the other", s.thingOf(1, 10 + j), 0);
            s.changes("least of " + j, x -> x.number(0, j, 0), true, "things", "anew");
            due("is", s.thingOf(0, 10 + j), 0);
            s.number(0, j, 40 + j);
        }
        for (int j = 0; j < 4; j++) {
            due("all four stay", s.thingOf(0, 10 + j), 40 + j);
        }
        for (int j : new int[] {-1, 4, LEAST, MOST}) {
            s.denies("number " + j, x -> x.number(0, j, 5));
            s.refuses("touch of number " + j, x -> x.touch(0, j, 5, 3));
        }
        for (int v : new int[] {-1, 100000, LEAST, MOST}) {
            s.denies("value " + v, x -> x.number(0, 0, v));
            s.refuses("touch to value " + v, x -> x.touch(0, 3, v, 3));
        }
        due("touch of the last number to the most", s.touch(0, 3, 99999, 3), 0);
        due("touch of the first number to the least", s.touch(0, 0, 0, 3), 0);
    }

    private static void thingsHaveAnOrder() {
        sentence("THINGS in one (or in none) have an order");
        Shop s = new Shop();
        s.rule('a', "<n>(<b>)");
        s.rule('b', "<n>");
        s.thing("P", 'a', NONE);
        s.thing("x", 'b', 0);
        s.thing("Q", 'a', NONE);
        s.thing("u", 'b', 2);
        s.thing("y", 'b', 0);
        s.thing("v", 'b', 2);
        s.make();
        due("as they came", s.shown(), "P(xy)Q(uv)");
        due("place in none", s.thingOf(2, 2), 1);
        due("place in one", s.thingOf(4, 2), 1);
        due("first place in one", s.thingOf(3, 2), 0);
        s.call(x -> x.move(2, 0));
        s.call(x -> x.move(5, 0));
        s.make();
        due("moved", s.shown(), "Q(vu)P(xy)");
        due("a move there leaves places elsewhere", s.thingOf(4, 2), 1);
        due("with the number 0, in none, behind", s.thingOf(0, 2), 1);
    }

    private static void thingsAreSixDeep() {
        sentence("things are at most 6 deep (one that lies in none: 1)");
        Shop s = new Shop();
        s.rule('a', "<n><a>");
        due("1 deep", s.thing("A", 'a', NONE), 0);
        for (int t = 1; t < 6; t++) {
            due("deep by " + (t + 1), s.thing("" + (char) ('A' + t), 'a', t - 1), t);
        }
        s.tape("no");
        s.refuses("7 deep", x -> x.thing(0, 5));
        due("beside the sixth", s.call(x -> x.thing(0, 4)), 6);
        due("all are made", s.make(), 7);
        due("text", s.shown(), "ABCDEFno");
        due("uses around the sixth", s.piece(5, 7), 6);
        due("uses around the first", s.piece(0, 7), 1);
    }

    // ---- the rules

    private static void rulesAreBareAtFirst() {
        sentence("RULES, one for each KIND (at first without ITEMS)");
        Shop s = new Shop();
        for (char kind = 'a'; kind <= 'h'; kind++) {
            due("items of " + kind, s.about(10 + kind - 'a'), 0);
            s.thing("t", kind, NONE);
        }
        due("nothing is made", s.make(), 0);
        s.rule('c', "x");
        due("of one kind alone", s.make(), 1);
        due("by its thing", s.piece(0, 0), 2);
        due("a rule without items again", s.rule('c', ""), 0);
        due("no fault", s.call(x -> x.fault(0)), 0);
        due("its items", s.about(12), 0);
        due("nothing is made again", s.make(), 0);
    }

    private static void rulesHave120Bytes() {
        sentence("texts of up to 120 bytes, 32 .. 126");
        String word = "0123456789".repeat(12);
        Shop s = oneThing(word);
        due("one word of 120", s.about(10), 1);
        due("all are made", s.shown(), word);
        String marks = "<+00>".repeat(19) + "w".repeat(22) + "<n>";
        due("19 marks, a word and one more are 21", read(marks), "-1 5@117");
        due("a mark that ends at 120", read("w".repeat(117) + "<n>"), "2 0@-1");
        due("a mark that the 120th cuts", read("w".repeat(118) + "<n"), "-1 2@118");
        due("a mark of five ends at 120", read("w".repeat(115) + "<+33>"), "2 0@-1");
        due("a mark of five is cut", read("w".repeat(116) + "<+33"), "-1 2@116");
        due("a mark of four ends at 120", read("<?0>" + "w".repeat(113) + "<!>"), "3 0@-1");
        due("a bad byte at 119", read("w".repeat(119) + "\u007f"), "-1 1@119");
        for (int b = 32; b <= 126; b++) {
            if (b != '<') {
                due("byte " + b, read("" + (char) b), "1 0@-1");
                due("byte " + b + " is made", madeBy("-" + (char) b + "-"), "-" + (char) b + "-");
            }
        }
    }

    private static void wordsGoUpToTheNextMark() {
        sentence("bytes up to the next < or the end: a WORD (all these bytes)");
        due("to the end", read("ab cd>&"), "1 0@-1");
        due("is made whole", madeBy("ab cd>&"), "ab cd>&");
        due("up to a mark", read("ab<n>cd"), "3 0@-1");
        due("and behind it", madeBy("ab<n>cd"), "abNmcd");
        due("no word between two marks", read("<n><n>"), "2 0@-1");
        due("no word ahead, one behind", read("<n>x"), "2 0@-1");
        due("a > begins a word", read(">n>"), "1 0@-1");
        due("a > behind a mark is a word", madeBy("<n>>"), "Nm>");
        due("spaces are a word", madeBy(" <n>  "), " Nm  ");
        due("no bytes are no word", read(""), "0 0@-1");
    }

    private static void theNameMark() {
        sentence("<n> the NAME");
        due("is one item", read("<n>"), "1 0@-1");
        due("is made", madeBy("<n>"), "Nm");
        for (String bad : new String[] {"<N>", "<m>", "<o>", "<nn>", "<n", "<n<", "<n >", "<>"}) {
            due(bad, read(bad), "-1 2@0");
        }
    }

    private static void theNumberMarks() {
        sentence("<0> .. <3> a NUMBER");
        String[] made = {"1", "20", "300", "4000"};
        for (int j = 0; j < 4; j++) {
            due("items", read("<" + j + ">"), "1 0@-1");
            due("number " + j, madeBy("<" + j + ">"), made[j]);
        }
        for (String bad : new String[] {"</>", "<4>", "<9>", "<00>", "<0", "<-1>"}) {
            due(bad, read(bad), "-1 2@0");
        }
    }

    private static void theSumMarks() {
        sentence("<+jk> the SUM of numbers j and k");
        int[] numbers = {1, 20, 300, 4000};
        for (int j = 0; j < 4; j++) {
            for (int k = 0; k < 4; k++) {
                due("items", read("<+" + j + k + ">"), "1 0@-1");
                due("sum " + j + k, madeBy("<+" + j + k + ">"), "" + (numbers[j] + numbers[k]));
            }
        }
        for (String bad : new String[] {"<+/0>", "<+0/>", "<+40>", "<+04>", "<+0>", "<+>", "<+000>", "<+00", "<+0", "<+",
            "<-00>", "<,00>", "<00>", "<+0<>"}) {
            due(bad, read(bad), "-1 2@0");
        }
    }

    private static void thePlaceMark() {
        sentence("<=> a PLACE for hands");
        due("is one item", read("<=>"), "1 0@-1");
        Shop s = oneThing("<=>");
        due("a piece", s.about(1), 1);
        due("its sort", s.piece(0, 2), 4);
        due("is empty", s.shown(), "");
        s.hand(0, "hi");
        due("until a hand comes", s.shown(), "hi");
        due("is empty for B", s.bytes(0, 2), "");
        for (String bad : new String[] {"<;>", "<==>", "<="}) {
            due(bad, read(bad), "-1 2@0");
        }
    }

    private static void theKindMarks() {
        sentence("<x> (x of a .. h) all THINGS of KIND x in this one");
        for (char kind = 'a'; kind <= 'h'; kind++) {
            due("items", read("<" + kind + ">"), "1 0@-1");
            Shop s = new Shop();
            s.thing("r", 'a', NONE);
            s.thing("no", kind == 'h' ? 'b' : (char) (kind + 1), 0);
            s.thing("yes", kind, 0);
            s.thing("too", kind, 0);
            s.thing("deep", kind, 1);
            s.thing("deep", kind, 2);
            s.rule(kind, "[<n>]");
            s.rule('a', kind == 'a' ? "<n><a>" : "<" + kind + ">");
            s.make();
            due("in this one, not deeper", s.shown(), kind == 'a' ? "ryesdeeptoo" : "[yes][too]");
        }
        Shop none = oneThing("x<b>y");
        due("none is nothing", none.shown(), "xy");
        due("is no piece", none.about(1), 2);
        for (String bad : new String[] {"<`>", "<i>", "<A>", "<H>", "<ab>", "<a"}) {
            due(bad, read(bad), "-1 2@0");
        }
    }

    private static void theWhenMarks() {
        sentence("<?j> .. <!>: what stands between only if number j is above 0 (not within one another)");
        for (int number = 0; number < 4; number++) {
            int j = number;
            due("items", read("<?" + j + ">x<!>"), "3 0@-1");
            Shop s = oneThing("a<?" + j + ">b<n><!>c");
            due("0 is not above 0", s.shown(), "ac");
            for (int other = 0; other < 4; other++) {
                s.number(0, other, other == j ? 0 : 9);
            }
            s.make();
            due("others don't count", s.shown(), "ac");
            s.number(0, j, 1);
            s.make();
            due("1 is", s.shown(), "abtc");
            s.number(0, j, 99999);
            s.make();
            due("the most is", s.shown(), "abtc");
            s.number(0, j, 0);
            s.make();
            due("0 is not again", s.shown(), "ac");
        }
        due("with nothing between", read("<?0><!>"), "2 0@-1");
        due("one behind another", madeBy("<?0>a<!><?1>b<!>c"), "abc");
        due("not within one another", read("<?0><?0><!><!>"), "-1 3@4");
        for (String bad : new String[] {"<?/>", "<?4>", "<?>", "<?00>", "<?0", "<?", "<!!>", "<!0>", "<!", "<\">"}) {
            due(bad, read(bad), "-1 2@0");
        }
        Shop s = new Shop();
        s.thing("r", 'a', NONE);
        s.thing("p", 'b', 0);
        s.rule('b', "<n><?0>+<!>");
        s.rule('a', "<?0><b><!><b>");
        s.make();
        due("things between go, too", s.shown(), "p");
        s.number(0, 0, 1);
        s.make();
        due("a part has its own number", s.shown(), "pp");
        s.number(0, 0, 0);
        s.number(1, 0, 1);
        s.make();
        due("and its own when", s.shown(), "p+");
    }

    private static void theLessMark() {
        sentence("<<>: a WORD of one <");
        due("is one item", read("<<>"), "1 0@-1");
        due("is made", madeBy("<<>"), "<");
        due("its sort", oneThing("<<>").piece(0, 2), 0);
        due("apart from words beside it", read("a<<>b<<><<>"), "5 0@-1");
        due("all are made", madeBy("a<<>b<<><<>"), "a<b<<");
        for (String bad : new String[] {"<<", "<<<>", "<< >", "<<n>"}) {
            due(bad, read(bad), "-1 2@0");
        }
    }

    // ---- the faults

    private static void faultsGoByPlaces() {
        sentence("FAULTS of a RULE, the first by places");
        due("1 ahead of 2", read("\u0001<"), "-1 1@0");
        due("2 ahead of 1", read("<x>\u0001"), "-1 2@0");
        due("2 ahead of a 1 within it", read("<\u0001>"), "-1 2@0");
        due("2 ahead of a 1 within a sum", read("<+0\u0001>"), "-1 2@0");
        due("3 ahead of 2", read("<!><x>"), "-1 3@0");
        due("2 ahead of 3", read("<x><!>"), "-1 2@0");
        due("3 ahead of 1", read("<!>\u0001"), "-1 3@0");
        due("1 ahead of 3", read("\u0001<!>"), "-1 1@0");
        due("1 ahead of 4", read("<?0>\u0001"), "-1 1@4");
        due("2 ahead of 4", read("<?0><"), "-1 2@4");
        due("3 ahead of 4", read("<?0><?0>"), "-1 3@4");
        due("5 ahead of a later 1", read("<n>".repeat(21) + "\u0001"), "-1 5@60");
        due("5 ahead of a later 2", read("<n>".repeat(21) + "<"), "-1 5@60");
        due("5 ahead of a later 3", read("<n>".repeat(21) + "<!>"), "-1 5@60");
        due("two of one sort", read("ab\u0001\u0002"), "-1 1@2");
    }

    private static void faultOfAByte() {
        sentence("1 a byte that is none of 32 .. 126 (at it)");
        for (int b : new int[] {0, 1, 9, 10, 13, 30, 31, 127, 128, 160, 'n' + 128, '<' + 128, 254, 255}) {
            due("byte " + b + " alone", read("" + (char) b), "-1 1@0");
            due("byte " + b + " in a word", read("ab" + (char) b + "c"), "-1 1@2");
            due("byte " + b + " behind a mark", read("<n>" + (char) b), "-1 1@3");
            due("byte " + b + " at the end", read("<n>ab" + (char) b), "-1 1@5");
        }
        due("32", read(" "), "1 0@-1");
        due("126", read("~"), "1 0@-1");
    }

    private static void faultOfAMark() {
        sentence("2 a < that begins nothing of these (at the <)");
        due("alone", read("<"), "-1 2@0");
        due("at the end", read("abc<"), "-1 2@3");
        due("behind a whole mark", read("<n><q>"), "-1 2@3");
        due("a mark that begins in another", read("a<<n>"), "-1 2@1");
        due("the first of two", read("<x><y>"), "-1 2@0");
        for (int b = 0; b < 256; b++) {
            if ("n0123=abcdefgh!<".indexOf(b) < 0) {
                due("byte " + b, read("<" + (char) b + ">"), "-1 2@0");
            }
        }
    }

    private static void faultOfNesting() {
        sentence("3 <?j> within another one, <!> without one (at its <)");
        due("within", read("a<?0>b<?1>c<!>"), "-1 3@6");
        due("within the same", read("<?2><?2>"), "-1 3@4");
        due("without, first", read("<!>"), "-1 3@0");
        due("without, behind a word", read("ab<!>"), "-1 3@2");
        due("without, behind a whole one", read("<?0><!><!>"), "-1 3@7");
        due("a second one is fine", read("<?0><!><?0><!>"), "4 0@-1");
    }

    private static void faultOfAnOpenWhen() {
        sentence("4 (at the length) a <?j> without <!>");
        due("alone", read("<?0>"), "-1 4@4");
        due("with a word", read("<?3>abc"), "-1 4@7");
        due("with marks", read("x<?3><n><0>"), "-1 4@11");
        due("the second of two", read("<?0><!><?0>"), "-1 4@11");
        due("at 120", read("<?0>" + "w".repeat(116)), "-1 4@120");
        due("of 20 items", read("<n>".repeat(19) + "<?0>"), "-1 4@61");
    }

    private static void faultOfThe21stItem() {
        sentence("5 the 21st ITEM, of <?j> and <!> too");
        String twenty = "<n>".repeat(20);
        due("20", read(twenty), "20 0@-1");
        due("20 with words", read("a<n>".repeat(10)), "20 0@-1");
        due("21 with words", read("a<n>".repeat(10) + "b"), "-1 5@40");
        due("the 21st a name", read(twenty + "<n>"), "-1 5@60");
        due("the 21st a word", read(twenty + "w"), "-1 5@60");
        due("the 21st a number", read(twenty + "<0>"), "-1 5@60");
        due("the 21st a sum", read(twenty + "<+00>"), "-1 5@60");
        due("the 21st a place", read(twenty + "<=>"), "-1 5@60");
        due("the 21st a kind", read(twenty + "<a>"), "-1 5@60");
        due("the 21st a <", read(twenty + "<<>"), "-1 5@60");
        due("the 21st a when", read(twenty + "<?0>"), "-1 5@60");
        due("the 21st a whole when", read(twenty + "<?0><!>"), "-1 5@60");
        due("the 21st a when's end", read("<?0>" + "<n>".repeat(19) + "<!>"), "-1 5@61");
        due("whens and their ends count", read("<?0><!>".repeat(10)), "20 0@-1");
        due("and one is too many", read("<?0><!>".repeat(10) + "w"), "-1 5@70");
        due("as many as there can be", read("<a>".repeat(40)), "-1 5@60");
    }

    private static void faultOfThe21stItemGoesBehindOthers() {
        sentence("(at its first byte; 1, 2, 3 ahead of it)");
        String twenty = "<n>".repeat(20);
        due("1 at its place", read(twenty + "\u0001"), "-1 1@60");
        due("1 at its place, a word behind", read(twenty + "\u007fword"), "-1 1@60");
        due("1 within the word", read(twenty + "w\u0001"), "-1 5@60");
        due("2 at its place", read(twenty + "<"), "-1 2@60");
        due("2 at its place, a bad mark", read(twenty + "<4>"), "-1 2@60");
        due("2 behind the word", read(twenty + "w<"), "-1 5@60");
        due("3 at its place", read(twenty + "<!>"), "-1 3@60");
        due("3 within, at its place", read("<?0>" + "<n>".repeat(19) + "<?1>"), "-1 3@61");
        due("4 comes later", read("<?0>" + "<n>".repeat(19) + "<n>"), "-1 5@61");
        due("1 in the 20th", read("<n>".repeat(19) + "ab\u0001<n>"), "-1 1@59");
    }

    // ---- II. making

    /** 249 pieces; 250 if number 0 of thing 12 is above 0, and one more if its number 1 is. Piece 240 is number 0. */
    private static Shop nearlyFullOfPieces() {
        Shop s = new Shop();
        for (int t = 0; t < 12; t++) {
            s.thing("t", 'a', NONE);
        }
        s.thing("u", 'b', NONE);
        s.rule('a', "<=>".repeat(20));
        s.rule('b', "<0>" + "<=>".repeat(8) + "<?0>x<!><?1>y<!>");
        return s;
    }

    /** 3000 bytes if number 0 of thing 0, piece 0, has one digit. */
    private static Shop fullOfBytesShop() {
        Shop s = new Shop();
        s.thing("r", 'a', NONE);
        for (int t = 1; t <= 5; t++) {
            s.thing("b", 'b', 0);
        }
        s.thing("c", 'c', 0);
        s.rule('a', "<0><b><b><b><b><b><c>");
        s.rule('b', "w".repeat(119));
        s.rule('c', "v".repeat(24));
        return s;
    }

    /** 2000 uses; 2001 if number 0 of thing 6, the one piece, is above 0. */
    private static Shop fullOfUsesShop() {
        Shop s = new Shop();
        s.thing("r", 'a', NONE);
        s.thing("b", 'b', 0);
        for (int t = 2; t <= 5; t++) {
            s.thing("c", 'c', 1);
        }
        s.thing("d", 'd', NONE);
        s.thing("e", 'e', 6);
        s.thing("e", 'e', 6);
        s.thing("f", 'f', 7);
        s.thing("f", 'f', 8);
        s.thing("h", 'h', 6);
        // 1 + 20 + 20 * 20 * 4 are 1621 uses, and 1 + 9 * 2 + 9 * 2 * 20 are 379.
        s.rule('a', "<b>".repeat(20));
        s.rule('b', "<c>".repeat(20));
        s.rule('d', "<e>".repeat(9) + "<0><?0><h><!>");
        s.rule('e', "<f>".repeat(20));
        return s;
    }

    private static void thingsInNoneAreMadeInOrder() {
        sentence("THE MADE: USES of all THINGS that lie in none, in their order");
        Shop s = new Shop();
        s.rule('a', "<n>");
        due("of none", s.make(), 0);
        s.thing("A", 'a', NONE);
        due("of one", s.make(), 1);
        s.thing("B", 'a', NONE);
        s.thing("in", 'a', 0);
        s.thing("C", 'a', NONE);
        s.call(x -> x.move(3, 0));
        due("of three", s.make(), 3);
        due("those that lie in one only by an item there", s.shown(), "CAB");
        due("pieces are numbered as they come", s.piece(0, 0) + "" + s.piece(1, 0) + s.piece(2, 0), "301");
    }

    private static void numbersHaveNoZerosAhead() {
        sentence("a WORD, NAME, NUMBER (without zeros ahead), SUM, PLACE (empty) is a PIECE");
        Shop s = oneThing("<0>,<+12>");
        due("0 is one zero", s.shown(), "0,0");
        int[] values = {1, 9, 10, 11, 99, 100, 101, 999, 1000, 9999, 10000, 10001, 90000, 99999};
        for (int v : values) {
            s.number(0, 0, v);
            s.number(0, 1, v);
            s.number(0, 2, 99999);
            s.make();
            due("number " + v, s.shown(), v + "," + (v + 99999));
        }
        s.number(0, 2, 0);
        s.number(0, 1, 99999);
        s.make();
        due("a sum with 0", s.shown(), "99999,99999");
        Shop each = oneThing("w<n><0><+00><=><<>");
        due("each is a piece", each.about(1), 6);
        String sorts = "";
        for (int p = 0; p < 6; p++) {
            sorts += each.piece(p, 2);
        }
        due("sorts", sorts, "012340");
        due("a place has no byte", each.piece(4, 4), 0);
    }

    private static void makersAreItemsFrom0() {
        sentence("its ITEM (by number in its RULE, from 0)");
        Shop s = oneThing("a<n>".repeat(10));
        for (int p = 0; p < 20; p++) {
            due("item of piece " + p, s.piece(p, 1), p);
        }
        Shop t = oneThing("<?0>no<!><b><n>");
        due("whens and kinds are counted", t.piece(0, 1), 4);
        due("though the piece is the first", t.about(1), 1);
    }

    private static void fullOfPieces() {
        sentence("FULL: there would be more than 250 PIECES");
        Shop s = nearlyFullOfPieces();
        due("249", s.make(), 249);
        due("touch to 250", s.touch(12, 0, 1, 3), 250);
        s.number(12, 0, 1);
        due("250", s.make(), 250);
        due("the last", s.piece(249, 0), 12);
        due("its item", s.piece(249, 1), 10);
        due("none behind it", s.piece(250, 0), NONE);
        due("touch to as many", s.touch(12, 0, 9, 3), 250);
        for (int what = 0; what < 4; what++) {
            int w = what;
            s.changes("touch to 251, " + w, x -> x.touch(12, 1, 1, w), NONE);
        }
        s.number(12, 1, 1);
        s.refuses("make of 251", MadeMended::make);
        s.number(12, 1, 0);
        due("250 again", s.make(), 250);
        s.rule('a', "<=>".repeat(20));
        s.rule('b', "<=>".repeat(11));
        s.refuses("make of 251 by another rule", MadeMended::make);
        s.rule('b', "<=>".repeat(10));
        due("250 by another rule", s.make(), 250);
        s.rule('b', "<=>".repeat(20));
        s.refuses("make of 260", MadeMended::make);
    }

    private static void fullOfBytes() {
        sentence("3,000 bytes that are MADE");
        Shop s = fullOfBytesShop();
        due("3000", s.make(), 27);
        due("bytes", s.about(2), 3000);
        due("the last", s.ask(x -> x.text(2999)), (int) 'v');
        due("its maker", s.ask(x -> x.maker(2999)), 26);
        due("none behind it", s.ask(x -> x.text(3000)), NONE);
        due("touch to as many", s.touch(0, 0, 9, 3), 27);
        s.refuses("touch to 3001", x -> x.touch(0, 0, 10, 3));
        s.number(0, 0, 10);
        s.refuses("make of 3001", MadeMended::make);
        s.number(0, 0, 5);
        s.hand(26, "q".repeat(60));
        s.hand(0, "");
        due("bytes of hands are not MADE", s.make(), 27);
        due("shown", s.about(2), 2999 + 36);
        due("the last that is shown", s.ask(x -> x.text(3034)), (int) 'q');
        for (int p = 1; p <= 5; p++) {
            s.hand(p, "");
        }
        s.number(0, 0, 10);
        due("less is shown", s.about(2), 3035 - 5 * 119);
        s.refuses("but not MADE", MadeMended::make);
        s.rule('c', "v".repeat(23));
        due("one less", s.make(), 27);
        s.name(6, "abcdef");
        s.rule('c', "v".repeat(17) + "<n>");
        due("3000 by a name", s.make(), 28);
        s.rule('c', "v".repeat(18) + "<n>");
        s.refuses("3001 by a name", MadeMended::make);
        s.rule('c', "v".repeat(21) + "<+11><+11>");
        due("3000 by sums", s.make(), 29);
        s.number(6, 1, 5);
        s.refuses("3002 by sums", MadeMended::make);
        s.number(6, 1, 4);
        due("3000 by sums again", s.make(), 29);
        s.rule('c', "v".repeat(23) + "<=>");
        due("a place has none", s.make(), 28);
    }

    private static void fullOfUses() {
        sentence("or 2,000 USES");
        Shop s = fullOfUsesShop();
        due("2000", s.make(), 1);
        due("touch to as many", s.touch(6, 0, 0, 3), 1);
        s.refuses("touch to 2001", x -> x.touch(6, 0, 1, 3));
        s.number(6, 0, 1);
        s.refuses("make of 2001", MadeMended::make);
        s.number(6, 0, 0);
        due("2000 again", s.make(), 1);
        s.thing("k", 'g', NONE);
        s.refuses("2001 by one that lies in none", MadeMended::make);
        s.call(x -> x.drop(12));
        s.thing("k", 'g', 0);
        due("one that no item names has no use", s.make(), 1);
        s.call(x -> x.drop(11));
        s.number(6, 0, 1);
        due("an item without things has no use", s.make(), 1);
    }

    private static void sameByItemAndSort() {
        sentence("Makers are THE SAME: the ITEM's number and sort");
        String[] ofSort = {"w", "<n>", "<0>", "<+00>", "<=>"};
        for (int was = 0; was < 5; was++) {
            for (int is = 0; is < 5; is++) {
                Shop s = oneThing("<=>" + ofSort[was] + "<n><0>");
                s.hand(1, "HAND");
                s.rule('a', "<=>" + ofSort[is] + "<n><0>");
                s.make();
                due("sort " + was + " then " + is, s.piece(1, 5), was == is ? 1 : 0);
                due("lone", s.about(4), was == is ? 0 : 1);
                due("none has it beside", s.piece(2, 5), 0);
            }
        }
        Shop words = oneThing("one");
        words.hand(0, "HAND");
        words.rule('a', "<<>");
        words.make();
        due("a word that is a < is a word", words.piece(0, 6), 1);
        Shop numbers = oneThing("<0>");
        numbers.hand(0, "HAND");
        numbers.rule('a', "<3>");
        numbers.make();
        due("another number is of the same sort", numbers.piece(0, 5), 1);
        Shop sums = oneThing("<+01>");
        sums.hand(0, "HAND");
        sums.rule('a', "<+33>");
        sums.make();
        due("another sum is of the same sort", sums.piece(0, 5), 1);
        Shop moved = oneThing("<n><n>");
        moved.hand(0, "HAND");
        moved.rule('a', "<?0><!><n><n>");
        moved.make();
        due("another number is another item", moved.about(4), 1);
        due("none has it", moved.shown(), "tt");
    }

    private static void sameByThing() {
        sentence("the THING (that it was there all the time: a number used again is another THING)");
        Shop s = new Shop();
        s.thing("r", 'a', NONE);
        s.thing("p", 'b', 0);
        s.thing("q", 'b', 0);
        s.rule('a', "<b>");
        s.rule('b', "<n>");
        s.make();
        s.hand(0, "P");
        s.hand(1, "Q");
        s.call(x -> x.move(1, 1));
        s.make();
        due("it goes with its thing", s.shown(), "QP");
        s.call(x -> x.drop(1));
        due("the same number", s.thing("p", 'b', 0), 1);
        s.make();
        due("another thing", s.shown(), "Qp");
        due("its hand's is lone", s.lone(0), "P");
        s.call(x -> x.drop(0));
        s.thing("r", 'a', NONE);
        s.thing("p", 'b', 0);
        s.thing("q", 'b', 0);
        s.make();
        due("all others", s.shown(), "pq");
        due("the other is lone", s.lone(1), "Q");
        Shop t = oneThing("<n>");
        t.hand(0, "H");
        t.name(0, "other");
        t.number(0, 0, 5);
        t.make();
        due("a name and a number leave it the same", t.piece(0, 6), 1);
    }

    private static void sameByUsesAround() {
        sentence("and the same of all the USES around it, by ITEMS' numbers");
        char[] kinds = {'a', 'b', 'c', 'd', 'e', 'f'};
        for (int level = 0; level < 5; level++) {
            Shop s = new Shop();
            for (int t = 0; t < 6; t++) {
                s.thing("t", kinds[t], t - 1);
                s.rule(kinds[t], t < 5 ? "<" + kinds[t + 1] + ">" : "<n>");
            }
            s.make();
            s.hand(0, "H");
            s.make();
            due("the same", s.shown(), "H");
            s.rule(kinds[level], "<=><" + kinds[level + 1] + ">");
            s.make();
            due("another item at level " + level, s.shown(), "t");
            due("lone", s.about(4), 1);
        }
        Shop s = new Shop();
        String gap = "<?0><!>".repeat(7);
        for (int t = 0; t < 6; t++) {
            s.thing("t", kinds[t], t - 1);
        }
        for (int t = 0; t < 5; t++) {
            String x = "<" + kinds[t + 1] + ">";
            // Items 0, 1 and 19, or 0, 16 and 19: ways that a narrow count of them would take for one another.
            s.rule(kinds[t], t % 2 == 0 ? x + x + gap + "<h><h><h>" + x : x + gap + "<h>" + x + "<h><h>" + x);
        }
        s.rule('f', "<n>");
        due("ways", s.make(), 243);
        int[] some = {0, 1, 2, 3, 9, 10, 27, 28, 81, 82, 83, 121, 161, 162, 240, 241, 242};
        StringBuilder want = new StringBuilder("t".repeat(243));
        for (int n = 0; n < some.length; n++) {
            s.hand(some[n], "" + (char) ('A' + n));
            want.setCharAt(some[n], (char) ('A' + n));
        }
        s.make();
        due("each has its own way", s.shown(), want.toString());
    }

    // ---- III. the text

    private static void shownIsTheHandsEvenIfEmpty() {
        sentence("SHOWN is the HAND's, else the MADE");
        Shop s = oneThing("abc<=>");
        s.hand(0, "");
        due("an empty one is a HAND's", s.piece(0, 5), 1);
        due("shown", s.shown(), "");
        due("bytes shown", s.piece(0, 3), 0);
        due("bytes made", s.piece(0, 4), 3);
        due("made", s.bytes(0, 1), "abc");
        due("no byte of it", s.ask(x -> x.byteOf(0, 0, 0)), NONE);
        s.make();
        due("it is kept", s.piece(0, 5), 1);
        s.rule('a', "");
        s.make();
        due("as a lone one, too", s.about(4), 1);
        due("of length", s.ask(x -> x.lone(0, 3, 0)), 0);
    }

    private static void handLikeTheNew() {
        sentence("by N, what is MADE now: H like N: no HAND's any more");
        Shop s = oneThing("<0>-");
        s.hand(0, "12");
        s.number(0, 0, 12);
        s.make();
        due("no HAND's", s.piece(0, 5), 0);
        due("no clash", s.about(3), 0);
        due("no B", s.ask(x -> x.byteOf(0, 2, 0)), NONE);
        due("not lone", s.about(4), 0);
        s.number(0, 0, 13);
        s.make();
        due("it does not come again", s.shown(), "13-");
        for (String near : new String[] {"1", "123", "13", "02"}) {
            Shop t = oneThing("<0>-");
            t.hand(0, near);
            t.number(0, 0, 12);
            t.make();
            due(near + " is not like 12", t.piece(0, 6), 1);
            due("shown", t.shown(), near + "-");
        }
        Shop clash = oneThing("<0>-");
        clash.hand(0, "12");
        clash.number(0, 0, 5);
        clash.make();
        clash.number(0, 0, 12);
        clash.make();
        due("a clash ends so, too", clash.piece(0, 5) + clash.about(3), 0);
        Shop empty = oneThing("<?0>no<!>word");
        empty.hand(0, "");
        empty.rule('a', "<?0>no<!>other");
        empty.make();
        due("an empty one is like no word", empty.piece(0, 6), 1);
    }

    private static void baseLikeTheNew() {
        sentence("else B like N: no CLASH");
        Shop s = oneThing("<0>-");
        s.number(0, 0, 12);
        s.make();
        s.hand(0, "mine");
        s.make();
        due("as it was", s.piece(0, 6), 0);
        due("a HAND's", s.piece(0, 5), 1);
        for (int v : new int[] {1, 123, 13, 22, 0}) {
            s.number(0, 0, v);
            s.make();
            due(v + " is not like 12", s.piece(0, 6), 1);
            s.number(0, 0, 12);
            s.make();
            due("12 is again", s.piece(0, 6), 0);
        }
        due("B", s.bytes(0, 2), "12");
        due("shown", s.shown(), "mine-");
    }

    private static void neitherIsAClash() {
        sentence("else it is a CLASH (H is SHOWN)");
        Shop s = oneThing("<0><1>");
        s.hand(0, "mine");
        s.number(0, 0, 1);
        s.number(0, 1, 1);
        s.make();
        due("a clash", s.piece(0, 6), 1);
        due("of one piece", s.about(3), 1);
        due("none without a HAND's", s.piece(1, 6), 0);
        due("shown", s.shown(), "mine1");
        due("made", s.bytes(0, 1), "1");
        due("B is as it was", s.bytes(0, 2), "0");
        s.make();
        due("it stays one", s.piece(0, 6), 1);
        s.number(0, 0, 2);
        s.make();
        due("B stays as it was", s.bytes(0, 2), "0");
        due("made then", s.bytes(0, 1), "2");
        Shop word = oneThing("w".repeat(120));
        word.hand(0, "mine");
        word.rule('a', "w".repeat(119) + "v");
        word.make();
        due("by the 120th byte", word.piece(0, 6), 1);
        due("a B of 120", word.bytes(0, 2), "w".repeat(120));
    }

    private static void noNewPieceIsLone() {
        sentence("An old PIECE with a HAND's text of which there is no new one is LONE");
        Shop s = oneThing("<?0><!>a<n><0><+00><=><<>");
        s.make();
        for (int p = 0; p < 6; p++) {
            s.hand(p, "H" + p);
        }
        s.hand(2, "0");
        s.rule('a', "<?0>a<!>-");
        s.make();
        due("with a HAND's alone", s.about(4), 5);
        String all = "";
        for (int n = 0; n < 5; n++) {
            int l = n;
            all += s.lone(l) + s.ask(x -> x.lone(l, 1, 0)) + s.ask(x -> x.lone(l, 2, 0)) + s.ask(x -> x.lone(l, 3, 0)) + " ";
        }
        due("text, sort, item, length, in the order of pieces", all, "H0022 H1132 H3352 H4462 H5072 ");
        s.hand(0, "later");
        s.rule('a', "<0>");
        s.make();
        due("behind the others", s.lone(5), "later");
        due("the first stays", s.lone(0), "H0");
        s.rule('a', "<?0><!>a<n><0><+00><=><<>");
        s.make();
        due("it does not come back", s.about(4), 6);
        due("nor is it shown", s.shown(), "at00<");
        s.rule('a', "");
        s.make();
        due("those without a HAND's are not lone", s.about(4), 6);
    }

    private static void loneTextsAre30() {
        sentence("(30 at most, the earliest fall out, which is counted)");
        Shop s = new Shop();
        s.thing("t", 'a', NONE);
        s.thing("u", 'b', NONE);
        s.rule('a', "<?0>" + "<=>".repeat(18) + "<!>");
        s.rule('b', "<?0>" + "<=>".repeat(18) + "<!>");
        s.number(0, 0, 1);
        s.number(1, 0, 1);
        s.make();
        for (int p = 0; p < 29; p++) {
            s.hand(p, "" + (char) ('A' + p));
        }
        s.number(0, 0, 0);
        s.number(1, 0, 0);
        s.make();
        due("29", s.about(4), 29);
        due("none fell out", s.about(5), 0);
        loneOneMore(s, "30th");
        due("30", s.about(4), 30);
        due("none fell out of 30", s.about(5), 0);
        due("the earliest of 30", s.lone(0), "A");
        loneOneMore(s, "31st");
        due("30 of 31", s.about(4), 30);
        due("one fell out", s.about(5), 1);
        due("the earliest then", s.lone(0), "B");
        due("the latest", s.lone(29), "31st");
        due("no 31st", s.ask(x -> x.lone(30, 3, 0)), NONE);
        s.call(x -> x.drops(5));
        loneOneMore(s, "room");
        due("one that was dropped makes room", s.about(5), 1);
        due("the latest then", s.lone(29), "room");
        due("dropped ones are not counted", s.about(4), 30);
        moreThan30AtOnce();
    }

    private static void loneOneMore(Shop s, String text) {
        s.number(0, 0, 1);
        s.make();
        s.hand(17, text);
        s.number(0, 0, 0);
        s.make();
    }

    private static void moreThan30AtOnce() {
        Shop s = new Shop();
        s.thing("t", 'a', NONE);
        s.thing("u", 'a', NONE);
        s.rule('a', "<=>".repeat(20));
        s.make();
        for (int p = 0; p < 40; p++) {
            s.hand(p, "" + (char) ('A' + p));
        }
        s.rule('a', "");
        due("touch counts 40", s.touch(0, 0, 0, 2), 40);
        s.make();
        due("the last 30 of 40", s.about(4), 30);
        due("ten fell out", s.about(5), 10);
        due("the earliest is the 11th", s.lone(0), "K");
        due("the latest is the 40th", s.lone(29), "h");
    }

    private static void nothingIsDoneIfFull() {
        sentence("If the new one is FULL nothing is done.");
        Shop s = nearlyFullOfPieces();
        s.make();
        s.hand(240, "77");
        s.hand(241, "kept");
        s.hand(0, "lost");
        s.call(x -> x.drop(0));
        s.rule('h', "<=>".repeat(20));
        s.thing("x", 'h', NONE);
        s.thing("y", 'h', NONE);
        s.number(12, 0, 3);
        s.refuses("make", MadeMended::make);
        due("the pieces stay", s.about(1), 249);
        due("none is lone", s.about(4), 0);
        due("no clash", s.about(3), 0);
        s.rule('h', "");
        due("then it is done", s.make(), 230);
        due("clash", s.piece(220, 6), 1);
        due("kept", s.bytes(221, 0), "kept");
        due("lone", s.lone(0), "lost");
    }

    private static void takeTheHands() {
        sentence("TAKE a CLASH: 0 the HAND's stays, B is N then");
        Shop s = oneThing("<0>");
        s.hand(0, "mine");
        s.number(0, 0, 1);
        s.make();
        s.changes("take", x -> x.take(0, 0), true, "text", "anew");
        due("no clash", s.piece(0, 6) + s.about(3), 0);
        due("shown", s.shown(), "mine");
        due("made", s.bytes(0, 1), "1");
        due("B is N", s.bytes(0, 2), "1");
        s.make();
        due("no clash anew", s.about(3), 0);
        s.number(0, 0, 0);
        s.make();
        due("the old B is a clash", s.about(3), 1);
        due("B stays N", s.bytes(0, 2), "1");
    }

    private static void takeTheMade() {
        sentence("1 the MADE is SHOWN, no HAND's any more");
        Shop s = oneThing("<0>");
        s.hand(0, "mine");
        s.number(0, 0, 1);
        s.make();
        s.changes("take", x -> x.take(0, 1), true, "text", "anew");
        due("no clash", s.piece(0, 6) + s.about(3), 0);
        due("no HAND's", s.piece(0, 5), 0);
        due("shown", s.shown(), "1");
        due("no B", s.ask(x -> x.byteOf(0, 2, 0)), NONE);
        due("not lone", s.about(4), 0);
        s.number(0, 0, 0);
        s.make();
        due("made anew", s.shown(), "0");
    }

    private static void backOfNumbers() {
        sentence("BACK: a NUMBER with a HAND's text that is a number 0 .. 99999 without zeros ahead");
        for (String good : new String[] {"0", "1", "9", "10", "90", "100", "9999", "10000", "99998", "99999"}) {
            Shop s = oneThing("<2>");
            s.number(0, 2, 55);
            s.make();
            s.hand(0, good);
            due("back of " + good, s.back(0), 1);
            due("number", s.thingOf(0, 12), Integer.parseInt(good));
            due("no HAND's", s.piece(0, 5), 0);
            due("made", s.bytes(0, 1), good);
        }
        String[] bad = {"", "00", "01", "000", "00000", "012345", "100000", "999999", "1234567890", "4294967297", "1a", "a1",
            "-1", "-0", "+1", " 1", "1 ", "1.0", "/", ":", "1/", "1:", "\u0031\u0000", "\u0000", "\u00b1", "word",
            "9".repeat(60)};
        for (String text : bad) {
            Shop s = oneThing("<2>");
            s.number(0, 2, 55);
            s.make();
            s.hand(0, text);
            s.refuses("back of \"" + text + "\"", x -> x.back(0));
        }
    }

    private static void backIfFull() {
        sentence("if that would be FULL, nothing is done");
        Shop pieces = nearlyFullOfPieces();
        pieces.make();
        pieces.hand(240, "1");
        due("250 are not FULL", pieces.back(240), 250);
        pieces.number(12, 1, 1);
        pieces.hand(240, "2");
        pieces.refuses("251 pieces", x -> x.back(240));
        due("the HAND's stays", pieces.piece(240, 5), 1);
        due("the number stays", pieces.thingOf(12, 10), 1);
        pieces.hand(240, "0");
        due("250 again", pieces.back(240), 250);
        Shop bytes = fullOfBytesShop();
        bytes.make();
        bytes.hand(0, "9");
        due("3000 are not FULL", bytes.back(0), 27);
        bytes.hand(0, "10");
        bytes.refuses("3001 bytes", x -> x.back(0));
        Shop uses = fullOfUsesShop();
        uses.make();
        uses.hand(0, "1");
        uses.refuses("2001 uses", x -> x.back(0));
        due("the number stays 0", uses.thingOf(6, 10), 0);
    }

    // ---- promises 1 to 10

    private static void aNewObject() {
        sentence("`MadeMended()`: No THINGS, RULES without ITEMS, an empty text.");
        Shop s = new Shop();
        due("None", NONE, -1);
        for (int what = 0; what <= 6; what++) {
            due("about " + what, s.about(what), 0);
        }
        for (int what = 10; what < 18; what++) {
            due("about " + what, s.about(what), 0);
        }
        for (int t = 0; t < 24; t++) {
            due("thing " + t, s.thingOf(t, 0), NONE);
        }
        due("text", s.shown(), "");
        due("maker", s.ask(x -> x.maker(0)), NONE);
        due("piece", s.piece(0, 0), NONE);
        due("lone", s.ask(x -> x.lone(0, 3, 0)), NONE);
        s.refuses("fault", x -> x.fault(0));
        s.denies("drops", x -> x.drops(0));
        s.denies("hand", x -> x.hand(0));
        s.denies("take", x -> x.take(0, 0));
        s.refuses("back", x -> x.back(0));
        s.refuses("touch", x -> x.touch(0, 0, 0, 0));
        s.changes("make", MadeMended::make, 0);
        s.denies("number", x -> x.number(0, 0, 0));
        s.denies("move", x -> x.move(0, 0));
        s.refuses("drop", x -> x.drop(0));
    }

    private static void feedUpTo120() {
        sentence("NONE, and none come, if there would be more than 120.");
        Shop s = oneThing("<=>");
        for (int n = 20; n <= 120; n += 20) {
            due("feed", s.call(x -> x.feed(0, 0, 0, 0, 0)), n);
            due("tape", s.about(6), n);
        }
        s.refuses("140", x -> x.feed(-1, -1, -1, -1, -1));
        s.call(x -> x.end(101));
        s.refuses("121", x -> x.feed(-1, -1, -1, -1, -1));
        s.call(x -> x.end(100));
        due("120", s.call(x -> x.feed(1, 2, 3, 4, 5)), 120);
        s.call(x -> x.end(0));
        due("20 again", s.call(x -> x.feed(1, 2, 3, 4, 5)), 20);
        s.call(x -> x.end(1));
        due("21", s.call(x -> x.feed(1, 2, 3, 4, 5)), 21);
    }

    private static void feedBytesInOrder() {
        sentence("Twenty bytes come behind the tape, the highest of a first: how many it has.");
        Shop s = oneThing("<=>");
        s.call(x -> x.feed(0x01020304, 0x05060708, 0x090A0B0C, 0x0D0E0F10, 0x11121314));
        s.call(x -> x.end(18));
        due("behind it", s.call(x -> x.feed(0xFF7F8000, 0x80000001, MOST, LEAST, -1)), 38);
        s.call(x -> x.hand(0));
        StringBuilder want = new StringBuilder();
        for (int b = 1; b <= 18; b++) {
            want.append((char) b);
        }
        want.append("\u00ff\u007f\u0080\u0000\u0080\u0000\u0000\u0001\u007f\u00ff\u00ff\u00ff\u0080\u0000\u0000\u0000");
        want.append("\u00ff\u00ff\u00ff\u00ff");
        due("bytes 0 .. 255", s.bytes(0, 0), want.toString());
    }

    private static void endOfTheTape() {
        sentence("The tape has its first n bytes alone: n. NONE, and nothing is done, if it has not so many, or n is below 0.");
        Shop s = oneThing("<=>");
        s.changes("0 of none", x -> x.end(0), 0);
        s.refuses("1 of none", x -> x.end(1));
        s.feed("abcdefghijklmnopqrst");
        s.changes("all", x -> x.end(20), 20);
        for (int n : new int[] {21, 120, 121, MOST, -1, LEAST}) {
            s.refuses("end " + n, x -> x.end(n));
        }
        s.changes("one less", x -> x.end(19), 19, "tape");
        s.refuses("what went is gone", x -> x.end(20));
        s.changes("one", x -> x.end(1), 1, "tape");
        s.feed("BCDEFGHIJKLMNOPQRSTU");
        due("behind the first", s.about(6), 21);
        s.call(x -> x.end(3));
        s.call(x -> x.hand(0));
        due("bytes", s.shown(), "aBC");
        s.changes("0 of none left", x -> x.end(0), 0);
    }

    private static void thingIsRefused() {
        sentence("NONE, and the tape stays: no NAME, KIND (0 a .. 7 h), THING, too deep, or there are 24.");
        Shop s = busy();
        s.tape("abcdefg");
        s.refuses("no NAME, seven", x -> x.thing(0, NONE));
        s.tape("");
        s.refuses("no NAME, empty", x -> x.thing(0, NONE));
        s.tape("a-b");
        s.refuses("no NAME, no letters", x -> x.thing(0, NONE));
        s.tape("fine");
        s.refuses("KIND -1", x -> x.thing(-1, NONE));
        s.refuses("KIND 8", x -> x.thing(8, NONE));
        s.refuses("in one that is gone", x -> x.thing(0, 3));
        s.refuses("in one that never was", x -> x.thing(0, 4));
        s.refuses("in -2", x -> x.thing(0, -2));
        s.refuses("in 24", x -> x.thing(0, 24));
        s.changes("and then it is used", x -> x.thing(7, 2), 3, "things", "tape", "anew");
        due("tape is empty then", s.about(6), 0);
        due("its name", s.nameOf(3), "fine");
        due("its kind", s.thingOf(3, 0), 7);
        due("it lies in", s.thingOf(3, 1), 2);
        due("it is the last there", s.thingOf(3, 2), 0);
        for (int what = 10; what < 14; what++) {
            due("its numbers", s.thingOf(3, what), 0);
        }
        due("one in none", s.thing("n", 'a', NONE), 4);
        due("lies in none", s.thingOf(4, 1), NONE);
        due("is the last there", s.thingOf(4, 2), 1);
    }

    private static void numberIsRefused() {
        sentence("Number j of a THING: true. False for others.");
        Shop s = busy();
        s.changes("number", x -> x.number(1, 2, 5), true, "things", "anew");
        s.changes("the same again", x -> x.number(1, 2, 5), true);
        s.denies("of one that is gone", x -> x.number(3, 0, 1));
        s.denies("of one that never was", x -> x.number(4, 0, 1));
        s.denies("value 100000", x -> x.number(1, 2, 100000));
        s.denies("value -1", x -> x.number(1, 2, -1));
        s.denies("number 4", x -> x.number(1, 4, 1));
        s.denies("number -1", x -> x.number(1, -1, 1));
        due("it stays", s.thingOf(1, 12), 5);
    }

    private static void nameIsRefused() {
        sentence("is a THING's NAME from now on: true. False, and the tape stays, for others.");
        Shop s = busy();
        s.denies("of one that is gone", x -> x.name(3));
        s.denies("of one that never was", x -> x.name(4));
        s.changes("name", x -> x.name(1), true, "things", "tape", "anew");
        due("tape is empty then", s.about(6), 0);
        due("it is", s.nameOf(1), "abc");
        s.denies("empty", x -> x.name(1));
        s.tape("abcdefg");
        s.denies("seven", x -> x.name(1));
        s.call(x -> x.end(6));
        due("its first six", s.call(x -> x.name(1)), true);
        due("it is then", s.nameOf(1), "abcdef");
        due("a shorter one", s.name(1, "z"), true);
        due("nothing of the longer one stays", s.nameOf(1), "z");
    }

    private static void moveToAPlace() {
        sentence("A THING comes to place k (from 0) among those that lie where it lies: true. False: no such THING, place.");
        String[] orders = {"abcd", "bacd", "bcad", "bcda"};
        for (int place = 0; place < 4; place++) {
            int k = place;
            Shop s = siblings();
            s.changes("the first to " + k, x -> x.move(1, k), true, "things", "anew");
            s.make();
            due("order", s.shown(), orders[k]);
            due("its place", s.thingOf(1, 2), k);
        }
        String[] others = {"dabc", "adbc", "abdc", "abcd"};
        for (int place = 0; place < 4; place++) {
            int k = place;
            Shop s = siblings();
            s.changes("the last to " + k, x -> x.move(4, k), true, "things", "anew");
            s.make();
            due("order", s.shown(), others[k]);
        }
        Shop s = siblings();
        for (int k : new int[] {-1, 4, 5, 24, LEAST, MOST}) {
            s.denies("to " + k, x -> x.move(1, k));
        }
        s.denies("one that never was", x -> x.move(6, 0));
        s.changes("in none, alone", x -> x.move(0, 0), true);
        s.denies("in none, one too far", x -> x.move(0, 1));
        s.changes("within another, alone", x -> x.move(5, 0), true);
        s.denies("within another, one too far", x -> x.move(5, 1));
        s.call(x -> x.drop(4));
        s.denies("one that is gone", x -> x.move(4, 0));
        s.denies("a place that is gone", x -> x.move(1, 3));
        due("the last place then", s.call(x -> x.move(1, 2)), true);
        Shop mixed = new Shop();
        mixed.thing("r", 'a', NONE);
        mixed.thing("b", 'b', 0);
        mixed.thing("c", 'c', 0);
        mixed.thing("d", 'd', 0);
        mixed.denies("of three kinds, one too far", x -> x.move(1, 3));
        mixed.changes("of three kinds, the last", x -> x.move(1, 2), true, "things");
        due("places", mixed.thingOf(2, 2) + "" + mixed.thingOf(3, 2) + mixed.thingOf(1, 2), "012");
    }

    /** Things 1 to 4, "a" to "d", in thing 0, and thing 5 in thing 1. */
    private static Shop siblings() {
        Shop s = new Shop();
        s.thing("r", 'a', NONE);
        for (String name : new String[] {"a", "b", "c", "d"}) {
            s.thing(name, 'b', 0);
        }
        s.thing("in", 'c', 1);
        s.rule('a', "<b>");
        s.rule('b', "<n>");
        s.make();
        return s;
    }

    private static void dropWithAllInIt() {
        sentence("A THING goes, with all that lie in it: how many go. NONE: there is none such.");
        Shop s = new Shop();
        for (int t = 0; t < 6; t++) {
            s.thing("t", 'a', t - 1);
        }
        s.thing("u", 'a', 0);
        s.thing("v", 'a', NONE);
        s.changes("one without any", x -> x.drop(6), 1, "things", "anew");
        s.refuses("one that is gone", x -> x.drop(6));
        s.refuses("one that never was", x -> x.drop(8));
        s.changes("the deepest", x -> x.drop(5), 1, "things", "anew");
        s.changes("the second, with all in it", x -> x.drop(1), 4, "things", "anew");
        s.refuses("what lay in it is gone", x -> x.drop(3));
        due("two are left", s.about(0), 2);
        due("the place behind it", s.thingOf(7, 2), 1);
        s.changes("the first", x -> x.drop(0), 1, "things", "anew");
        due("the next comes forward", s.thingOf(7, 2), 0);
        s.changes("the last", x -> x.drop(7), 1, "things", "anew");
        due("none are left", s.about(0), 0);
        Shop all = new Shop();
        all.thing("r", 'a', NONE);
        for (int t = 1; t < 24; t++) {
            all.thing("t", 'b', t % 5 == 0 ? t - 1 : 0);
        }
        due("24 at once", all.call(x -> x.drop(0)), 24);
        due("room for all again", all.thing("n", 'c', NONE), 0);
    }

    private static void ruleIsRefused() {
        sentence("NONE: it has a FAULT, the RULE stays; or (the tape stays) there is no such KIND.");
        Shop s = busy();
        s.refuses("KIND -1", x -> x.rule(-1));
        s.refuses("KIND 8", x -> x.rule(8));
        for (String bad : new String[] {"\u0001", "<", "<!>", "<?0>", "<n>".repeat(21), "<n>w<x>"}) {
            s.tape(bad);
            s.changes("a FAULT, " + bad, x -> x.rule(0), NONE, "tape", "fault");
            s.tape(bad);
            s.changes("a FAULT, " + bad, x -> x.rule(1), NONE, "tape", "fault");
        }
        due("the tape is empty then", s.about(6), 0);
        due("the RULE stays", s.about(10), 5);
        s.tape("<n>");
        s.changes("one without a FAULT", x -> x.rule(0), 1, "tape", "fault", "rules", "anew");
        due("the tape is empty then", s.about(6), 0);
        s.changes("one without ITEMS", x -> x.rule(0), 0, "tape", "fault", "rules", "anew");
        due("its items", s.about(10), 0);
    }

    private static void faultOfTheLatest() {
        sentence("Of the latest RULE that was read: 0 its FAULT (0 without), 1 its place (NONE without). NONE for others, and ahead of any.");
        Shop s = new Shop();
        s.refuses("FAULT ahead of any", x -> x.fault(0));
        s.refuses("place ahead of any", x -> x.fault(1));
        s.tape("<");
        s.call(x -> x.rule(8));
        s.refuses("FAULT, as none was read", x -> x.fault(0));
        s.call(x -> x.rule(0));
        due("FAULT", s.call(x -> x.fault(0)), 2);
        due("place 0", s.call(x -> x.fault(1)), 0);
        for (int what : new int[] {-1, 2, LEAST, MOST}) {
            s.refuses("what " + what, x -> x.fault(what));
        }
        s.tape("ab\u0001");
        s.call(x -> x.rule(-1));
        due("no KIND: not read", s.call(x -> x.fault(0)), 2);
        s.call(x -> x.rule(7));
        due("of another KIND", s.call(x -> x.fault(0)), 1);
        due("its place", s.call(x -> x.fault(1)), 2);
        s.rule('b', "fine");
        due("0 without", s.call(x -> x.fault(0)), 0);
        due("NONE without", s.call(x -> x.fault(1)), NONE);
        s.refuses("others without", x -> x.fault(2));
        s.rule('b', "<?0>");
        s.call(x -> x.rule(1));
        due("an empty one is read, too", s.call(x -> x.fault(0)), 0);
    }

    // ---- promises 11 to 16

    private static void makeIsRefused() {
        sentence("The text is MADE ANEW: how many PIECES. NONE: it would be FULL.");
        Shop s = busy();
        s.changes("make", MadeMended::make, 13, "text", "anew");
        s.changes("make of the same", MadeMended::make, 13);
        s.rule('a', "<b>".repeat(20));
        s.rule('b', "<n>".repeat(7));
        s.refuses("280 pieces", MadeMended::make);
        s.rule('b', "<n>".repeat(6));
        due("240 pieces", s.make(), 240);
        s.call(x -> x.drop(0));
        due("no things, no pieces", s.make(), 0);
        due("an empty text", s.shown(), "");
    }

    private static void pieceOfOthers() {
        sentence("8 the KIND of its THING as it was made. NONE for others.");
        Shop s = busy();
        int last = s.about(1) - 1;
        due("pieces", last, 11);
        due("the first", s.piece(0, 2), 1);
        due("the last", s.piece(last, 2), 4);
        for (int p : new int[] {-1, last + 1, 249, 250, LEAST, MOST}) {
            for (int what = 0; what < 9; what++) {
                int w = what;
                due("piece " + p + " " + w, s.ask(x -> x.piece(p, w)), NONE);
            }
        }
        for (int what : new int[] {-1, 9, 10, LEAST, MOST}) {
            due("what " + what, s.piece(0, what), NONE);
        }
        due("kind", s.piece(2, 8), 1);
        due("uses", s.piece(2, 7), 2);
        due("no HAND's is 0", s.piece(0, 5), 0);
        due("a HAND's is 1", s.piece(2, 5), 1);
        due("no clash is 0", s.piece(2, 6), 0);
        due("a clash is 1", s.piece(3, 6), 1);
        s.rule('a', "");
        s.make();
        due("of an empty text", s.piece(0, 1), NONE);
    }

    private static void pieceOfAThingThatIsGone() {
        sentence("(The THING is NONE if it is gone by now.)");
        Shop s = busy();
        s.changes("drop", x -> x.drop(2), 1, "things", "text", "anew");
        String things = "";
        for (int p = 0; p < 12; p++) {
            things += s.piece(p, 0) + " ";
        }
        due("its pieces alone", things, "0 0 1 1 1 1 -1 -1 -1 -1 0 0 ");
        due("the kind as it was made", s.piece(6, 8), 1);
        due("the item", s.piece(6, 1), 0);
        due("the uses", s.piece(6, 7), 2);
        due("its text stays", s.bytes(6, 0), "two");
        due("its number is used again", s.thing("new", 'h', NONE), 2);
        due("by another thing", s.piece(6, 0), NONE);
        due("of another kind", s.piece(6, 8), 1);
        s.call(x -> x.drop(0));
        due("all are gone", s.piece(0, 0) + s.piece(2, 0), -2);
        due("a hand can still come", s.hand(6, "H"), true);
        due("shown", s.bytes(6, 0), "H");
    }

    private static void byteOfOthers() {
        sentence("Byte i of a PIECE: what 0 SHOWN, 1 MADE, 2 B (where there is a HAND's). NONE if there is none such.");
        Shop s = oneThing("ab<n>cd<=>");
        s.hand(1, "xyz");
        String[][] dues = {{"ab", "ab", ""}, {"xyz", "t", "t"}, {"cd", "cd", ""}, {"", "", ""}};
        for (int piece = 0; piece < 4; piece++) {
            for (int w = 0; w < 3; w++) {
                int p = piece;
                int what = w;
                String want = dues[p][what];
                due("piece " + p + " what " + what, s.bytes(p, what), want);
                for (int i : new int[] {-1, want.length(), want.length() + 1, LEAST, MOST}) {
                    due("byte " + i + " of " + p + " what " + what, s.ask(x -> x.byteOf(p, what, i)), NONE);
                }
            }
        }
        for (int p : new int[] {-1, 4, 250, LEAST, MOST}) {
            for (int w = 0; w < 3; w++) {
                int what = w;
                due("of piece " + p, s.ask(x -> x.byteOf(p, what, 0)), NONE);
            }
        }
        for (int what : new int[] {-1, 3, LEAST, MOST}) {
            due("what " + what, s.ask(x -> x.byteOf(1, what, 0)), NONE);
        }
        Shop empty = oneThing("");
        due("of an empty text", empty.ask(x -> x.byteOf(0, 0, 0)), NONE);
    }

    private static void handOfSixty() {
        sentence("False, and the tape stays: no such PIECE, or too much.");
        for (int length : new int[] {0, 1, 59, 60}) {
            Shop s = busy();
            String text = "q".repeat(length);
            s.tape(text);
            s.changes("hand of " + length, x -> x.hand(0), true, "text", "tape", "anew");
            due("tape is empty then", s.about(6), 0);
            due("shown", s.bytes(0, 0), text);
            due("B", s.bytes(0, 2), "root");
            due("bytes shown", s.piece(0, 3), length);
        }
        for (int length : new int[] {61, 80, 120}) {
            Shop s = busy();
            s.tape("q".repeat(length));
            s.denies("hand of " + length, x -> x.hand(0));
            s.denies("on one that has one", x -> x.hand(2));
            s.call(x -> x.end(60));
            due("its first 60", s.call(x -> x.hand(0)), true);
        }
        Shop s = busy();
        for (int p : new int[] {-1, 12, 249, 250, LEAST, MOST}) {
            s.denies("piece " + p, x -> x.hand(p));
        }
        due("the last piece", s.call(x -> x.hand(11)), true);
        due("of an empty text", oneThing("").call(x -> x.hand(0)), false);
        Shop kept = oneThing("w");
        kept.hand(0, "0123456789".repeat(6));
        kept.make();
        due("60 are kept", kept.shown(), "0123456789".repeat(6));
        kept.rule('a', "");
        kept.make();
        due("60 are lone", kept.lone(0), "0123456789".repeat(6));
    }

    private static void handLikeTheMade() {
        sentence("(like what is MADE: it has none)");
        Shop s = oneThing("word<=>");
        s.tape("word");
        s.changes("like it, without one", x -> x.hand(0), true, "tape");
        due("none", s.piece(0, 5), 0);
        due("tape is empty then", s.about(6), 0);
        for (String near : new String[] {"wor", "words", "Word", "worD", ""}) {
            s.hand(0, near);
            due(near + " is one", s.piece(0, 5), 1);
            due("shown", s.shown(), near);
        }
        s.hand(0, "word");
        due("like it, with one", s.piece(0, 5), 0);
        due("no B", s.ask(x -> x.byteOf(0, 2, 0)), NONE);
        s.tape("");
        s.changes("an empty one of a place", x -> x.hand(1), true, "tape");
        due("none, too", s.piece(1, 5), 0);
        s.rule('a', "");
        s.make();
        due("none is lone", s.about(4), 0);
    }

    private static void handOnAClash() {
        sentence("(A CLASH that it had is gone.)");
        Shop s = oneThing("<0><1>");
        s.hand(0, "mine");
        s.hand(1, "other");
        s.number(0, 0, 5);
        s.number(0, 1, 5);
        s.make();
        due("two", s.about(3), 2);
        s.hand(0, "again");
        due("one", s.about(3), 1);
        due("not this one", s.piece(0, 6), 0);
        due("B is what is made", s.bytes(0, 2), "5");
        s.hand(1, "5");
        due("none", s.about(3), 0);
        due("like the made: no HAND's", s.piece(1, 5), 0);
        Shop same = oneThing("<0>");
        same.hand(0, "mine");
        same.number(0, 0, 5);
        same.make();
        same.hand(0, "mine");
        due("by the same text, too", same.about(3), 0);
        due("B then", same.bytes(0, 2), "5");
        Shop old = oneThing("<0>");
        old.hand(0, "mine");
        old.number(0, 0, 5);
        old.make();
        old.hand(0, "0");
        due("like the old B", old.piece(0, 5), 1);
        old.number(0, 0, 0);
        old.make();
        due("is like N then", old.piece(0, 5), 0);
    }

    private static void takeIsRefused() {
        sentence("A CLASH is taken (which 0, 1): true. False: the PIECE is none, another which.");
        Shop s = busy();
        for (int which = 0; which < 2; which++) {
            int w = which;
            s.denies("no HAND's", x -> x.take(0, w));
            s.denies("a HAND's without a clash", x -> x.take(2, w));
            s.denies("piece -1", x -> x.take(-1, w));
            s.denies("piece 12", x -> x.take(12, w));
            s.denies("piece 250", x -> x.take(250, w));
        }
        for (int which : new int[] {-1, 2, LEAST, MOST}) {
            s.denies("which " + which, x -> x.take(3, which));
        }
        s.changes("taken", x -> x.take(3, 0), true, "text", "anew");
        s.denies("a second time", x -> x.take(3, 0));
        s.denies("or otherwise", x -> x.take(3, 1));
        Shop t = busy();
        t.changes("taken by 1", x -> x.take(3, 1), true, "text", "anew");
        t.denies("a second time", x -> x.take(3, 1));
        due("of an empty text", oneThing("").call(x -> x.take(0, 0)), false);
    }

    private static void backIsRefused() {
        sentence("NONE, changing nothing: it isn't one that can be, its THING is gone, or it would be FULL.");
        Shop s = oneThing("w<n><0><+01><=><1>");
        for (int piece = 0; piece < 5; piece++) {
            int p = piece;
            if (p != 2) {
                s.hand(p, "12");
                s.refuses("sort of piece " + p, x -> x.back(p));
            }
        }
        s.refuses("no HAND's", x -> x.back(2));
        for (int p : new int[] {-1, 6, 249, 250, LEAST, MOST}) {
            s.refuses("piece " + p, x -> x.back(p));
        }
        s.hand(2, "7");
        s.hand(5, "no");
        s.refuses("no number", x -> x.back(5));
        s.call(x -> x.drop(0));
        s.refuses("its THING is gone", x -> x.back(2));
        s.thing("t", 'a', NONE);
        s.refuses("its number is used again", x -> x.back(2));
        due("of an empty text", oneThing("").back(0), NONE);
        Shop parent = new Shop();
        parent.thing("r", 'b', NONE);
        parent.thing("t", 'a', 0);
        parent.rule('b', "<a>");
        parent.rule('a', "<0>");
        parent.make();
        parent.hand(0, "7");
        parent.call(x -> x.drop(0));
        parent.refuses("what it lies in is gone", x -> x.back(0));
    }

    private static void backLeadsIntoTheWholeText() {
        sentence("the model's number becomes that, the HAND's is gone, and the text is made anew");
        Shop s = oneThing("<0><0><+01><?0>+<0><!>");
        s.hand(0, "7");
        s.hand(1, "7");
        s.hand(2, "8");
        due("pieces then", s.back(0), 5);
        due("shown", s.shown(), "778+7");
        due("number", s.thingOf(0, 10), 7);
        due("the HAND's is gone", s.piece(0, 5), 0);
        due("like N: gone, too", s.piece(1, 5), 0);
        due("unlike N: a clash", s.piece(2, 6), 1);
        due("none is lone", s.about(4), 0);
        s.hand(4, "0");
        due("it may go with its own piece", s.back(4), 3);
        due("number 0", s.thingOf(0, 10), 0);
        due("it is not lone", s.about(4), 0);
        due("the clash is none by its B", s.piece(2, 6), 0);
        Shop gone = oneThing("<0><?0>x<!>");
        gone.number(0, 0, 1);
        gone.make();
        gone.hand(1, "X");
        gone.hand(0, "0");
        due("another may be lone by it", gone.back(0), 1);
        due("it is", gone.lone(0), "X");
        Shop clash = oneThing("<3>");
        clash.hand(0, "5");
        clash.number(0, 3, 9);
        clash.make();
        due("a clash", clash.about(3), 1);
        due("can be led back", clash.back(0), 1);
        due("number 3", clash.thingOf(0, 13), 5);
        due("no clash", clash.about(3), 0);
        Shop equal = oneThing("<1>");
        equal.hand(0, "5");
        equal.number(0, 1, 5);
        equal.changes("the model has it already", x -> x.back(0), 1, "text");
        due("no HAND's", equal.piece(0, 5), 0);
    }

    // ---- promises 17 to 23

    private static void touchCountsPieces() {
        sentence("what 0 PIECES SHOWN otherwise than those that are there (by number), or more, or fewer");
        Shop s = oneThing("<0>a<?1>bc<!><+02>z");
        s.changes("as it is", x -> x.touch(0, 0, 0, 0), 0);
        s.changes("number and sum", x -> x.touch(0, 0, 5, 0), 2);
        s.changes("a number that nothing shows", x -> x.touch(0, 3, 5, 0), 0);
        s.changes("those behind, and one more", x -> x.touch(0, 1, 1, 0), 3);
        s.changes("pieces then", x -> x.touch(0, 1, 1, 3), 5);
        due("pieces as they are", s.touch(0, 0, 0, 3), 4);
        s.hand(0, "5");
        due("a HAND's stays shown", s.touch(0, 0, 7, 0), 1);
        due("like the HAND's", s.touch(0, 0, 5, 0), 1);
        s.number(0, 0, 7);
        due("against the text, not the model", s.touch(0, 0, 7, 0), 1);
        due("as the text is", s.touch(0, 0, 0, 0), 0);
        Shop last = oneThing("a<?0>b<!>");
        due("one more alone", last.touch(0, 0, 1, 0), 1);
        last.number(0, 0, 1);
        last.make();
        due("one fewer alone", last.touch(0, 0, 0, 0), 1);
        due("pieces then", last.touch(0, 0, 0, 3), 1);
        last.rule('a', "");
        due("all fewer", last.touch(0, 0, 0, 0), 2);
        due("no pieces then", last.touch(0, 0, 0, 3), 0);
        Shop bare = new Shop();
        bare.thing("t", 'a', NONE);
        bare.rule('a', "<0><1><=>");
        due("of an empty text all are more", bare.touch(0, 0, 0, 0), 3);
        Shop bytes = oneThing("<0>");
        bytes.number(0, 0, 12);
        bytes.make();
        for (int v : new int[] {1, 2, 13, 22, 123, 21}) {
            due("12 is other than " + v, bytes.touch(0, 0, v, 0), 1);
        }
        due("12 is like 12", bytes.touch(0, 0, 12, 0), 0);
    }

    private static void touchCountsClashes() {
        sentence("1 CLASHES then");
        Shop s = oneThing("<0><0><1>");
        s.changes("without a HAND's", x -> x.touch(0, 0, 5, 1), 0);
        s.hand(0, "5");
        s.hand(1, "6");
        s.changes("both", x -> x.touch(0, 0, 7, 1), 2);
        s.changes("all but the one that is like it", x -> x.touch(0, 0, 5, 1), 1);
        s.changes("none by B", x -> x.touch(0, 0, 0, 1), 0);
        s.number(0, 0, 9);
        s.make();
        due("there are two", s.about(3), 2);
        s.changes("those that stay", x -> x.touch(0, 1, 1, 1), 2);
        s.changes("those that end", x -> x.touch(0, 0, 0, 1), 0);
        due("there are two still", s.about(3), 2);
    }

    private static void touchCountsLoneOnes() {
        sentence("2 LONE ones more; 3 PIECES then.");
        Shop s = oneThing("<?0>a<=><!>-");
        s.number(0, 0, 1);
        s.make();
        s.changes("without a HAND's", x -> x.touch(0, 0, 0, 2), 0);
        s.hand(0, "A");
        s.changes("one", x -> x.touch(0, 0, 0, 2), 1);
        s.hand(1, "B");
        s.hand(2, "C");
        s.changes("two", x -> x.touch(0, 0, 0, 2), 2);
        s.changes("none", x -> x.touch(0, 0, 2, 2), 0);
        s.number(0, 0, 0);
        s.make();
        due("there are two", s.about(4), 2);
        s.changes("those that are there don't count", x -> x.touch(0, 0, 0, 2), 0);
        s.changes("pieces", x -> x.touch(0, 0, 0, 3), 1);
        s.changes("pieces then", x -> x.touch(0, 0, 1, 3), 3);
    }

    private static void touchIsRefused() {
        sentence("NONE: others, or it would be FULL. Nothing is changed.");
        Shop s = busy();
        for (int what : new int[] {-1, 4, LEAST, MOST}) {
            s.refuses("what " + what, x -> x.touch(1, 1, 5, what));
        }
        for (int what = 0; what < 4; what++) {
            int w = what;
            s.refuses("one that is gone", x -> x.touch(3, 0, 0, w));
            s.refuses("number 4", x -> x.touch(1, 4, 0, w));
            s.refuses("number -1", x -> x.touch(1, -1, 0, w));
            s.refuses("value 100000", x -> x.touch(1, 0, 100000, w));
            s.refuses("value -1", x -> x.touch(1, 0, -1, w));
        }
        int[] dues = {5, 1, 0, 13};
        for (int what = 0; what < 4; what++) {
            int w = what;
            s.changes("what " + w, x -> x.touch(1, 1, 9, w), dues[w]);
        }
        s.rule('a', "<b>".repeat(20));
        s.rule('b', "<?0>" + "<n>".repeat(12) + "<!>");
        for (int what = 0; what < 4; what++) {
            int w = what;
            s.changes("not FULL by one", x -> x.touch(1, 0, 1, w), new int[] {240, 0, 3, 240}[w]);
        }
        s.number(2, 0, 1);
        for (int what = 0; what < 4; what++) {
            int w = what;
            s.refuses("FULL by both", x -> x.touch(1, 0, 1, w));
        }
    }

    private static void textAtAPlace() {
        sentence("The byte at a place of the text SHOWN. NONE if there is none such.");
        Shop s = oneThing("<=>ab<=><n><=>");
        due("text", s.shown(), "abt");
        for (int at : new int[] {-1, 3, 4, LEAST, MOST}) {
            due("at " + at, s.ask(x -> x.text(at)), NONE);
        }
        s.hand(0, "\u0000\u00ff");
        s.hand(1, "");
        s.hand(4, "!");
        due("with a byte 0 and a byte 255", s.shown(), "\u0000\u00fft!");
        due("the last", s.ask(x -> x.text(3)), (int) '!');
        due("behind it", s.ask(x -> x.text(4)), NONE);
        due("bytes", s.about(2), 4);
        due("of an empty text", oneThing("").ask(x -> x.text(0)), NONE);
        due("of empty pieces alone", oneThing("<=><=>").ask(x -> x.text(0)), NONE);
    }

    private static void makerAtAPlace() {
        sentence("The PIECE that shows the byte at a place. NONE if there is none such.");
        Shop s = oneThing("<=>ab<=><n><=>");
        int[] makers = {1, 1, 3, NONE, NONE};
        for (int n = 0; n < makers.length; n++) {
            int at = n;
            due("at " + at, s.ask(x -> x.maker(at)), makers[at]);
        }
        for (int at : new int[] {-1, LEAST, MOST}) {
            due("at " + at, s.ask(x -> x.maker(at)), NONE);
        }
        s.hand(1, "");
        due("an empty one shows none", s.ask(x -> x.maker(0)), 3);
        s.hand(4, "!");
        due("the last piece", s.ask(x -> x.maker(1)), 4);
        due("behind it", s.ask(x -> x.maker(2)), NONE);
        due("of an empty text", oneThing("").ask(x -> x.maker(0)), NONE);
        due("of empty pieces alone", oneThing("<=><=>").ask(x -> x.maker(0)), NONE);
    }

    private static void loneOfOthers() {
        sentence("its sort (1), its ITEM (2) (i doesn't count then), its length (3). NONE if there is none such.");
        Shop s = oneThing("-<=><+00>");
        due("of none", s.ask(x -> x.lone(0, 3, 0)), NONE);
        s.hand(1, "ab");
        s.hand(2, "");
        s.rule('a', "-");
        s.make();
        due("bytes", s.lone(0), "ab");
        for (int i : new int[] {-1, 2, LEAST, MOST}) {
            due("byte " + i, s.ask(x -> x.lone(0, 0, i)), NONE);
        }
        for (int i : new int[] {LEAST, -1, 0, 1, 2, 99, MOST}) {
            due("sort with " + i, s.ask(x -> x.lone(0, 1, i)), 4);
            due("item with " + i, s.ask(x -> x.lone(0, 2, i)), 1);
            due("length with " + i, s.ask(x -> x.lone(0, 3, i)), 2);
            due("no byte " + i + " of an empty one", s.ask(x -> x.lone(1, 0, i)), NONE);
        }
        due("sort of the second", s.ask(x -> x.lone(1, 1, 0)), 3);
        due("item of the second", s.ask(x -> x.lone(1, 2, 0)), 2);
        due("length of an empty one", s.ask(x -> x.lone(1, 3, 0)), 0);
        for (int l : new int[] {-1, 2, 29, 30, LEAST, MOST}) {
            for (int what = 0; what < 4; what++) {
                int w = what;
                due("lone " + l + " " + w, s.ask(x -> x.lone(l, w, 0)), NONE);
            }
        }
        for (int what : new int[] {-1, 4, LEAST, MOST}) {
            due("what " + what, s.ask(x -> x.lone(0, what, 0)), NONE);
        }
    }

    private static void dropsOneByOne() {
        sentence("LONE text l goes, those behind it come one forward: true. False: there is none such.");
        Shop s = oneThing("<=><=><=><=>");
        s.denies("of none", x -> x.drops(0));
        for (int p = 0; p < 4; p++) {
            s.hand(p, "L" + p);
        }
        s.rule('a', "");
        s.make();
        for (int l : new int[] {-1, 4, 30, LEAST, MOST}) {
            s.denies("drops " + l, x -> x.drops(l));
        }
        s.changes("one between", x -> x.drops(1), true, "lone", "anew");
        due("one forward", s.lone(0) + s.lone(1) + s.lone(2), "L0L2L3");
        s.denies("there are three", x -> x.drops(3));
        s.changes("the last", x -> x.drops(2), true, "lone", "anew");
        due("two are left", s.lone(0) + s.lone(1) + s.lone(2), "L0L2");
        s.changes("the first", x -> x.drops(0), true, "lone", "anew");
        due("one is left", s.lone(0) + s.lone(1), "L2");
        s.changes("the only one", x -> x.drops(0), true, "lone", "anew");
        s.denies("none is left", x -> x.drops(0));
        due("none fell out", s.about(5), 0);
        due("none", s.about(4), 0);
    }

    private static void thingOfOthers() {
        sentence("3 bytes of its NAME, 10 + j its numbers, 100 + i byte i of its NAME. NONE for others.");
        Shop s = new Shop();
        s.thing("abcdef", 'h', NONE);
        s.thing("Z", 'a', 0);
        s.thing("Y", 'b', 0);
        for (int j = 0; j < 4; j++) {
            s.number(0, j, 70 + j);
        }
        Map<Integer, Integer> dues = new TreeMap<>(Map.of(0, 7, 2, 0, 3, 6, 10, 70, 11, 71, 12, 72, 13, 73));
        for (int i = 0; i < 6; i++) {
            dues.put(100 + i, 'a' + i);
        }
        for (int w = -20; w < 130; w++) {
            int what = w;
            due("what " + what, s.ask(x -> x.thingOf(0, what)), dues.getOrDefault(what, NONE));
        }
        for (int what : new int[] {LEAST, LEAST + 9, LEAST + 10, LEAST + 99, LEAST + 100, LEAST + 103, MOST, MOST - 3}) {
            due("what " + what, s.thingOf(0, what), NONE);
        }
        due("it lies in none", s.thingOf(0, 1), NONE);
        due("one lies in it", s.thingOf(1, 1), 0);
        due("its last place", s.thingOf(2, 2), 1);
        due("one letter", s.thingOf(1, 100), (int) 'Z');
        due("no second", s.thingOf(1, 101), NONE);
        s.call(x -> x.drop(1));
        for (int t : new int[] {1, 3, -1, 24, LEAST, MOST}) {
            for (int what : new int[] {0, 1, 2, 3, 10, 13, 100}) {
                due("thing " + t + " " + what, s.thingOf(t, what), NONE);
            }
        }
    }

    private static void aboutOthers() {
        sentence("6 bytes of the tape, 10 + kind: ITEMS of a RULE. NONE for others.");
        Shop s = busy();
        s.rule('h', "a<n>".repeat(10));
        s.tape("12345");
        Map<Integer, Integer> dues = new TreeMap<>(Map.of(0, 3, 1, 12, 2, 23, 3, 1, 4, 1, 5, 0, 6, 5, 10, 5, 11, 7, 17, 20));
        for (int what = 12; what < 17; what++) {
            dues.put(what, 0);
        }
        for (int w = -20; w < 30; w++) {
            int what = w;
            due("what " + what, s.ask(x -> x.about(what)), dues.getOrDefault(what, NONE));
        }
        for (int what : new int[] {LEAST, LEAST + 9, LEAST + 10, LEAST + 17, MOST}) {
            due("what " + what, s.about(what), NONE);
        }
    }

    // ---- arguments that are far from all

    private static void farArguments() {
        part = "far arguments";
        for (int far : new int[] {LEAST, LEAST + 1, -1000000, 1000000, MOST - 1, MOST}) {
            Shop s = busy();
            s.refuses("end", x -> x.end(far));
            s.refuses("thing of a kind", x -> x.thing(far, NONE));
            s.refuses("thing in", x -> x.thing(0, far));
            s.denies("number of", x -> x.number(far, 0, 0));
            s.denies("number j", x -> x.number(0, far, 0));
            s.denies("number to", x -> x.number(0, 0, far));
            s.denies("name", x -> x.name(far));
            s.denies("move of", x -> x.move(far, 0));
            s.denies("move to", x -> x.move(0, far));
            s.refuses("drop", x -> x.drop(far));
            s.refuses("rule", x -> x.rule(far));
            s.refuses("fault", x -> x.fault(far));
            s.refuses("piece", x -> x.piece(far, 1));
            s.refuses("piece's what", x -> x.piece(0, far));
            s.refuses("byteOf", x -> x.byteOf(far, 0, 0));
            s.refuses("byteOf what", x -> x.byteOf(0, far, 0));
            s.refuses("byteOf i, shown by a HAND's", x -> x.byteOf(2, 0, far));
            s.refuses("byteOf i, made", x -> x.byteOf(0, 1, far));
            s.refuses("byteOf i, B", x -> x.byteOf(2, 2, far));
            s.denies("hand", x -> x.hand(far));
            s.denies("take", x -> x.take(far, 0));
            s.denies("take which", x -> x.take(3, far));
            s.refuses("back", x -> x.back(far));
            s.refuses("touch of", x -> x.touch(far, 0, 0, 0));
            s.refuses("touch j", x -> x.touch(0, far, 0, 0));
            s.refuses("touch to", x -> x.touch(0, 0, far, 0));
            s.refuses("touch what", x -> x.touch(0, 0, 0, far));
            s.refuses("text", x -> x.text(far));
            s.refuses("maker", x -> x.maker(far));
            s.refuses("lone", x -> x.lone(far, 1, 0));
            s.refuses("lone's what", x -> x.lone(0, far, 0));
            s.refuses("lone's i", x -> x.lone(0, 0, far));
            s.denies("drops", x -> x.drops(far));
            s.refuses("thingOf", x -> x.thingOf(far, 0));
            s.refuses("thingOf what", x -> x.thingOf(0, far));
            s.refuses("about", x -> x.about(far));
        }
    }
}
