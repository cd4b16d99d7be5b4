/** For each promise: ordinary inputs, the edges that the document names, and wrong inputs. */
public final class PromiseTest {
    private static final int NONE = MadeMended.NONE;
    private static int wrong = 0;
    private static String part = "";

    public static void main(String[] args) {
        newObject();
        feed();
        end();
        thing();
        thingsAreUsedAgain();
        number();
        name();
        move();
        drop();
        rule();
        faults();
        faultsOfTooMany();
        make();
        makeIsFull();
        piece();
        byteOf();
        hand();
        makersThatAreTheSame();
        makingAnew();
        take();
        back();
        backByTheNumberItWasMadeOf();
        touch();
        textAndMaker();
        lone();
        loneFallOut();
        thingOf();
        about();
        System.out.println(wrong == 0 ? "all answers are as due" : wrong + " answers are not as due");
        if (wrong != 0) {
            System.exit(1);
        }
    }

    private static void due(String what, Object got, Object want) {
        if (!got.equals(want)) {
            wrong++;
            System.out.println(part + ": " + what + " answered " + got + ", due is " + want);
        }
    }

    // ---- helpers that speak in texts

    private static void tape(MadeMended x, String text) {
        x.end(0);
        for (int from = 0; from < text.length(); from += 20) {
            int[] w = new int[5];
            for (int i = 0; i < 20; i++) {
                int b = from + i < text.length() ? text.charAt(from + i) : 0;
                w[i / 4] |= b << (24 - i % 4 * 8);
            }
            x.feed(w[0], w[1], w[2], w[3], w[4]);
        }
        x.end(text.length());
    }

    private static int thing(MadeMended x, String name, char kind, int in) {
        tape(x, name);
        return x.thing(kind - 'a', in);
    }

    private static int rule(MadeMended x, char kind, String text) {
        tape(x, text);
        return x.rule(kind - 'a');
    }

    private static boolean hand(MadeMended x, int p, String text) {
        tape(x, text);
        return x.hand(p);
    }

    private static String shown(MadeMended x) {
        StringBuilder s = new StringBuilder();
        for (int i = 0; x.text(i) != NONE; i++) {
            s.append((char) x.text(i));
        }
        return s.toString();
    }

    private static String bytes(MadeMended x, int p, int what) {
        StringBuilder s = new StringBuilder();
        for (int i = 0; x.byteOf(p, what, i) != NONE; i++) {
            s.append((char) x.byteOf(p, what, i));
        }
        return s.toString();
    }

    private static String loneText(MadeMended x, int l) {
        StringBuilder s = new StringBuilder();
        for (int i = 0; x.lone(l, 0, i) != NONE; i++) {
            s.append((char) x.lone(l, 0, i));
        }
        return s.toString();
    }

    private static String faultOf(MadeMended x, String text) {
        int items = rule(x, 'a', text);
        return items + " " + x.fault(0) + "@" + x.fault(1);
    }

    private static String repeat(String s, int n) {
        return s.repeat(n);
    }

    // ---- promise 1

    private static void newObject() {
        part = "1 a new object";
        MadeMended x = new MadeMended();
        due("NONE", MadeMended.NONE, -1);
        for (int what = 0; what <= 6; what++) {
            due("about " + what, x.about(what), 0);
        }
        for (int kind = 0; kind < 8; kind++) {
            due("items of " + kind, x.about(10 + kind), 0);
        }
        due("text", x.text(0), NONE);
        due("piece", x.piece(0, 0), NONE);
        due("thing", x.thingOf(0, 0), NONE);
        due("make", x.make(), 0);
    }

    // ---- promises 2 and 3

    private static void feed() {
        part = "2 feed";
        MadeMended x = new MadeMended();
        due("first", x.feed(0x41424344, 0x45464748, 0x494A4B4C, 0x4D4E4F50, 0xFF7F0080), 20);
        x.end(0);
        rule(x, 'a', "<=>");
        thing(x, "t", 'a', NONE);
        x.make();
        x.feed(0x41424344, 0x45464748, 0x494A4B4C, 0x4D4E4F50, 0xFF7F0080);
        x.hand(0);
        due("bytes in order", bytes(x, 0, 0), "ABCDEFGHIJKLMNOP\u00ff\u007f\u0000\u0080");
        for (int i = 1; i <= 6; i++) {
            due("feed " + i, x.feed(1, 2, 3, 4, 5), 20 * i);
        }
        due("more than 120", x.feed(1, 2, 3, 4, 5), NONE);
        due("none came", x.about(6), 120);
        x.end(101);
        due("121 would be", x.feed(1, 2, 3, 4, 5), NONE);
        due("stays 101", x.about(6), 101);
        x.end(100);
        due("120 is room enough", x.feed(1, 2, 3, 4, 5), 120);
    }

    private static void end() {
        part = "3 end";
        MadeMended x = new MadeMended();
        due("of none", x.end(1), NONE);
        due("zero", x.end(0), 0);
        x.feed(0x61626364, 0, 0, 0, 0);
        due("all", x.end(20), 20);
        due("too many", x.end(21), NONE);
        due("below 0", x.end(-1), NONE);
        due("least", x.end(Integer.MIN_VALUE), NONE);
        due("stays", x.about(6), 20);
        due("first three", x.end(3), 3);
        due("no way back", x.end(4), NONE);
        due("name", x.thing(0, NONE), 0);
        due("length", x.thingOf(0, 3), 3);
        due("last", x.thingOf(0, 102), (int) 'c');
    }

    // ---- promise 4

    private static void thing() {
        part = "4 thing";
        MadeMended x = new MadeMended();
        due("empty name", x.thing(0, NONE), NONE);
        for (String bad : new String[] {"abcdefg", "a b", "a1", "@", "[", "`", "{", "\u00e4", "\u0000"}) {
            due("name " + bad, thing(x, bad, 'a', NONE), NONE);
            due("tape stays", x.about(6), bad.length());
        }
        due("kind below", thing(x, "ab", (char) ('a' - 1), NONE), NONE);
        due("kind above", thing(x, "ab", 'i', NONE), NONE);
        due("in none such", thing(x, "ab", 'a', 0), NONE);
        due("in -2", thing(x, "ab", 'a', -2), NONE);
        due("in 24", thing(x, "ab", 'a', 24), NONE);
        due("tape", x.about(6), 2);
        due("first", thing(x, "azAZmM", 'h', NONE), 0);
        due("tape empty", x.about(6), 0);
        due("kind", x.thingOf(0, 0), 7);
        for (int i = 1; i < 6; i++) {
            due("deeper", thing(x, "d", 'a', i - 1), i);
        }
        due("too deep", thing(x, "d", 'a', 5), NONE);
        due("tape stays", x.about(6), 1);
        for (int i = 6; i < 24; i++) {
            due("more", thing(x, "m", 'b', 0), i);
            due("last in it", x.thingOf(i, 2), i - 5);
            for (int j = 0; j < 4; j++) {
                due("numbers", x.thingOf(i, 10 + j), 0);
            }
        }
        due("25th", thing(x, "m", 'b', NONE), NONE);
        due("tape stays", x.about(6), 1);
        due("count", x.about(0), 24);
    }

    private static void thingsAreUsedAgain() {
        part = "4 numbers used again";
        MadeMended x = new MadeMended();
        for (int i = 0; i < 5; i++) {
            thing(x, "t", 'a', NONE);
        }
        x.number(1, 2, 77);
        x.drop(3);
        x.drop(1);
        due("least first", thing(x, "u", 'b', NONE), 1);
        due("number is 0", x.thingOf(1, 12), 0);
        due("its place is the last", x.thingOf(1, 2), 3);
        due("then the next", thing(x, "u", 'b', NONE), 3);
        due("then a new one", thing(x, "u", 'b', NONE), 5);
    }

    // ---- promises 5 to 8

    private static void number() {
        part = "5 number";
        MadeMended x = new MadeMended();
        due("no thing", x.number(0, 0, 1), false);
        thing(x, "t", 'a', NONE);
        due("most", x.number(0, 3, 99999), true);
        due("kept", x.thingOf(0, 13), 99999);
        due("least", x.number(0, 0, 0), true);
        due("above", x.number(0, 0, 100000), false);
        due("below", x.number(0, 0, -1), false);
        due("j 4", x.number(0, 4, 1), false);
        due("j -1", x.number(0, -1, 1), false);
        due("t -1", x.number(-1, 0, 1), false);
        due("t 24", x.number(24, 0, 1), false);
        due("unchanged", x.thingOf(0, 10), 0);
        rule(x, 'a', "<3>");
        x.make();
        x.number(0, 3, 5);
        due("text moves with make alone", shown(x), "99999");
    }

    private static void name() {
        part = "6 name";
        MadeMended x = new MadeMended();
        tape(x, "abc");
        due("no thing", x.name(0), false);
        due("tape stays", x.about(6), 3);
        x.thing(0, NONE);
        due("empty", x.name(0), false);
        tape(x, "abcdefg");
        due("seven", x.name(0), false);
        tape(x, "a-");
        due("no letters", x.name(0), false);
        due("tape stays", x.about(6), 2);
        due("still three", x.thingOf(0, 3), 3);
        tape(x, "Qq");
        due("ordinary", x.name(0), true);
        due("tape empty", x.about(6), 0);
        due("new length", x.thingOf(0, 3), 2);
        due("new letter", x.thingOf(0, 100), (int) 'Q');
    }

    private static void move() {
        part = "7 move";
        MadeMended x = new MadeMended();
        due("no thing", x.move(0, 0), false);
        int root = thing(x, "r", 'a', NONE);
        for (String s : new String[] {"b", "c", "d"}) {
            thing(x, s, 'b', root);
        }
        rule(x, 'a', "<b>");
        rule(x, 'b', "<n>");
        due("last to first", x.move(3, 0), true);
        x.make();
        due("order", shown(x), "dbc");
        due("first to last", x.move(3, 2), true);
        due("middle on", x.move(2, 0), true);
        x.make();
        due("order then", shown(x), "cbd");
        due("stay", x.move(2, 0), true);
        due("no place", x.move(2, 3), false);
        due("below", x.move(2, -1), false);
        due("root alone", x.move(root, 0), true);
        due("root, no place", x.move(root, 1), false);
        due("place", x.thingOf(3, 2), 2);
    }

    private static void drop() {
        part = "8 drop";
        MadeMended x = new MadeMended();
        due("no thing", x.drop(0), NONE);
        due("no thing", x.drop(-1), NONE);
        thing(x, "r", 'a', NONE);
        thing(x, "s", 'a', NONE);
        thing(x, "t", 'b', 0);
        thing(x, "u", 'c', 2);
        thing(x, "v", 'b', 0);
        due("with what lies in it", x.drop(2), 2);
        due("gone too", x.thingOf(3, 0), NONE);
        due("next comes forward", x.thingOf(4, 2), 0);
        due("again", x.drop(2), NONE);
        due("root", x.drop(0), 2);
        due("left", x.about(0), 1);
        due("place of the other", x.thingOf(1, 2), 0);
        due("drop 24", x.drop(24), NONE);
    }

    // ---- promises 9 and 10

    private static void rule() {
        part = "9 rule";
        MadeMended x = new MadeMended();
        due("fault ahead of any", x.fault(0), NONE);
        due("place ahead of any", x.fault(1), NONE);
        tape(x, "abc");
        due("no kind", x.rule(8), NONE);
        due("no kind", x.rule(-1), NONE);
        due("tape stays", x.about(6), 3);
        due("still ahead of any", x.fault(0), NONE);
        due("word", x.rule(7), 1);
        due("tape empty", x.about(6), 0);
        due("items", x.about(17), 1);
        due("no fault", x.fault(0), 0);
        due("no place", x.fault(1), NONE);
        due("others", x.fault(2), NONE);
        due("others", x.fault(-1), NONE);
        due("all sorts", rule(x, 'a', "w<n><0><3><+03><=><a><h><?2>x<!><<>y"), 13);
        due("a fault", rule(x, 'a', "ab<"), NONE);
        due("tape is read", x.about(6), 0);
        due("rule stays", x.about(10), 13);
        due("empty", rule(x, 'a', ""), 0);
        due("empty, items", x.about(10), 0);
        due("words apart", rule(x, 'a', "a<<>b<<><<>"), 5);
        due("words of 120", rule(x, 'a', repeat("&>~ ", 30)), 1);
        due("two whens", rule(x, 'a', "<?0><!><?3><!>"), 4);
    }

    private static void faults() {
        part = "10 fault";
        MadeMended x = new MadeMended();
        due("1 low", faultOf(x, "ab\u001fc"), "-1 1@2");
        due("1 high", faultOf(x, "\u007f"), "-1 1@0");
        due("1 of 255", faultOf(x, "<n>a\u00ff"), "-1 1@4");
        due("edges are fine", faultOf(x, " ~"), "1 0@-1");
        due("2 alone", faultOf(x, "<"), "-1 2@0");
        due("2 short", faultOf(x, "a<n"), "-1 2@1");
        for (String bad : new String[] {"<4>", "<i>", "<`>", "<N>", "<A>", "<>", "<?>", "<+>", "<?4>", "<?00>",
            "<+0>", "<+04>", "<+40>", "<+000>", "<!0>", "<nn>", "<<n>", "<< >", "< n>", "</>", "<:>", "<\u0001>", "<+0\u0001>"}) {
            due("2 " + bad, faultOf(x, bad), "-1 2@0");
        }
        due("2 unended sum", faultOf(x, "<+00"), "-1 2@0");
        due("2 unended when", faultOf(x, "<?0"), "-1 2@0");
        due("3 within", faultOf(x, "a<?0>b<?1>c<!>"), "-1 3@6");
        due("3 without", faultOf(x, "<?0><!>a<!>"), "-1 3@8");
        due("4", faultOf(x, "<?0>abc"), "-1 4@7");
        due("4 after a whole one", faultOf(x, "<?0><!><?0>"), "-1 4@11");
        due("first by places, 1", faultOf(x, "\u0001<"), "-1 1@0");
        due("first by places, 2", faultOf(x, "<x>\u0001"), "-1 2@0");
        due("first by places, 3", faultOf(x, "<!><x>"), "-1 3@0");
        due("first by places, 1 ahead of 4", faultOf(x, "<?0>\u0001"), "-1 1@4");
        due("then without", faultOf(x, "<n>"), "1 0@-1");
    }

    private static void faultsOfTooMany() {
        part = "10 fault 5";
        MadeMended x = new MadeMended();
        String twenty = repeat("<n>", 20);
        due("20", faultOf(x, twenty), "20 0@-1");
        due("21st", faultOf(x, twenty + "<n>"), "-1 5@60");
        due("21st a word", faultOf(x, twenty + "ab"), "-1 5@60");
        due("21st a word, bad later", faultOf(x, twenty + "a\u0001"), "-1 5@60");
        due("1 ahead", faultOf(x, twenty + "\u0001"), "-1 1@60");
        due("2 ahead", faultOf(x, twenty + "<"), "-1 2@60");
        due("3 ahead", faultOf(x, twenty + "<!>"), "-1 3@60");
        due("whens count", faultOf(x, repeat("<?0><!>", 10) + "<=>"), "-1 5@70");
        due("20 with whens", faultOf(x, repeat("<?0><!>", 10)), "20 0@-1");
        due("5 for the end of a when", faultOf(x, "<?0>" + repeat("<n>", 19) + "<!>"), "-1 5@61");
        due("5 ahead of 4", faultOf(x, "<?0>" + repeat("<n>", 20)), "-1 5@61");
        due("4 with 20", faultOf(x, "<?0>" + repeat("<n>", 19)), "-1 4@61");
        due("3 within, the 21st", faultOf(x, "<?0>" + repeat("<n>", 19) + "<?1>"), "-1 3@61");
        due("bad byte in the 20th", faultOf(x, repeat("<n>", 19) + "ab\u0001<n>"), "-1 1@59");
    }

    // ---- promise 11

    private static void make() {
        part = "11 make";
        MadeMended x = new MadeMended();
        thing(x, "Root", 'a', NONE);
        thing(x, "x", 'b', 0);
        thing(x, "y", 'c', 0);
        thing(x, "z", 'b', 0);
        thing(x, "Two", 'a', NONE);
        rule(x, 'a', "<n>:<b><<><c>;");
        rule(x, 'b', "<n><?1>!<n><!><1>,<=>");
        rule(x, 'c', "(<+01>|<+22>)");
        x.number(1, 1, 30);
        x.number(2, 0, 99999);
        x.number(2, 1, 99999);
        x.number(2, 2, 7);
        due("pieces", x.make(), 23);
        due("text", shown(x), "Root:x!x30,z0,<(199998|14);Two:<;");
        due("again", x.make(), 23);
        rule(x, 'a', "");
        due("rule without items", x.make(), 0);
        due("empty", shown(x), "");
    }

    private static void makeIsFull() {
        part = "11 make, FULL";
        MadeMended x = new MadeMended();
        // 5 things of 20 items and 5 of 10: 250 pieces.
        for (int i = 0; i < 5; i++) {
            thing(x, "t", 'a', NONE);
            thing(x, "abcdef", 'b', NONE);
        }
        rule(x, 'a', repeat("<=>", 20));
        for (int i = 0; i < 5; i++) {
            thing(x, "u", 'a', NONE);
        }
        rule(x, 'b', repeat("<n>", 10));
        due("250", x.make(), 250);
        rule(x, 'b', repeat("<n>", 9) + "<?0><n><!><?1><n><!>");
        due("245", x.make(), 245);
        x.number(1, 0, 1);
        x.number(3, 0, 1);
        x.number(5, 0, 1);
        x.number(7, 0, 1);
        x.number(9, 0, 1);
        due("250 by whens", x.make(), 250);
        x.number(9, 1, 1);
        due("251", x.make(), NONE);
        due("text stays", x.about(1), 250);

        MadeMended y = new MadeMended();
        for (int i = 0; i < 24; i++) {
            thing(y, "abcdef", 'b', NONE);
        }
        rule(y, 'b', repeat("w", 119));
        due("2856 bytes", y.make(), 24);
        rule(y, 'b', "<n>" + repeat("w", 117));
        due("2952 bytes", y.make(), 48);
        rule(y, 'b', "<0>" + repeat("w", 117));
        y.number(0, 0, 10000);
        due("2836 bytes", y.make(), 48);
        rule(y, 'b', "<+00><n>" + repeat("w", 112));
        for (int i = 0; i < 24; i++) {
            y.number(i, 0, 50000);
        }
        due("2976 bytes", y.make(), 72);
        due("bytes shown", y.about(2), 2976);
        rule(y, 'b', "<+00><n>" + repeat("w", 112));
        y.drop(23);
        thing(y, "abcdef", 'c', NONE);
        y.number(23, 0, 50000);
        // 23 times 124 are 2852: 148 more are room enough.
        rule(y, 'c', "<+00><+00><+00><+00><n>" + repeat("w", 97));
        due("2979 bytes", y.make(), 23 * 3 + 6);
        rule(y, 'c', repeat("<+00>", 16) + repeat("<n>", 4));
        due("2972 bytes", y.make(), 23 * 3 + 20);
        rule(y, 'c', repeat("<+00>", 4) + repeat("w", 59) + "<n>" + repeat("v", 38));
        due("2979 bytes", y.make(), 23 * 3 + 7);
        rule(y, 'c', repeat("<n>", 7) + repeat("w", 99));
        due("2993 bytes", y.make(), 23 * 3 + 8);
        rule(y, 'c', repeat("<n>", 9) + repeat("w", 93));
        due("2999 bytes", y.make(), 23 * 3 + 10);
        y.number(23, 0, 1);
        rule(y, 'c', repeat("<n>", 10) + "<0>" + repeat("w", 87));
        due("3000 bytes", y.make(), 23 * 3 + 12);
        due("3000 shown", y.about(2), 3000);
        y.number(23, 0, 10);
        due("3001 bytes", y.make(), NONE);
        due("text stays", y.about(2), 3000);

        MadeMended z = new MadeMended();
        thing(z, "r", 'a', NONE);
        for (int i = 0; i < 9; i++) {
            thing(z, "s", 'b', 0);
        }
        for (int i = 0; i < 11; i++) {
            thing(z, "s", 'c', 1);
        }
        rule(z, 'a', repeat("<b>", 10));
        rule(z, 'b', repeat("<c>", 17));
        // 1 + 90 + 10 * 11 * 17 = 1961
        due("1961 uses", z.make(), 0);
        rule(z, 'b', repeat("<c>", 18));
        // 1 + 90 + 1980 = 2071
        due("2071 uses", z.make(), NONE);
        rule(z, 'b', repeat("<c>", 17));
        thing(z, "t", 'd', 0);
        thing(z, "t", 'd', 0);
        rule(z, 'a', repeat("<b>", 10) + "<d><d><d><d><d><d><d><d><d><d>");
        // 1961 + 20 = 1981
        due("1981 uses", z.make(), 0);
        thing(z, "t", 'd', 0);
        rule(z, 'a', repeat("<b>", 10) + "<d><d><d><d><d><d><d><d><d><d>");
        // 1961 + 30 = 1991
        due("1991 uses", z.make(), 0);
        z.drop(23);
        z.drop(22);
        z.drop(21);
        thing(z, "t", 'd', NONE);
        rule(z, 'a', repeat("<b>", 10));
        due("1962 uses", z.make(), 0);
        rule(z, 'd', repeat("<e>", 19));
        thing(z, "e", 'e', 21);
        thing(z, "e", 'e', 21);
        // 1961 + 1 + 2 * 19 = 2000
        due("2000 uses", z.make(), 0);
        rule(z, 'd', repeat("<e>", 20));
        due("2002 uses", z.make(), NONE);
        z.drop(23);
        thing(z, "f", 'f', 22);
        rule(z, 'd', repeat("<e>", 2));
        rule(z, 'e', repeat("<f>", 18));
        // 1961 + 1 + 2 * (1 + 18) = 2000
        due("2000 uses, deeper", z.make(), 0);
        rule(z, 'd', repeat("<e>", 3));
        rule(z, 'e', repeat("<f>", 12));
        // 1961 + 1 + 3 * (1 + 12) = 2001
        due("2001 uses", z.make(), NONE);
    }

    // ---- promises 12 and 13

    private static void piece() {
        part = "12 piece";
        MadeMended x = new MadeMended();
        thing(x, "r", 'a', NONE);
        thing(x, "c", 'h', 0);
        thing(x, "d", 'b', 1);
        rule(x, 'a', "<?0>no<!><h>");
        rule(x, 'h', "[<b>]");
        rule(x, 'b', "<<><n><0><+00><=>");
        due("make", x.make(), 7);
        int[][] dues = {
            {1, 0, 0, 1, 1, 0, 0, 2, 7}, {2, 0, 0, 1, 1, 0, 0, 3, 1}, {2, 1, 1, 1, 1, 0, 0, 3, 1},
            {2, 2, 2, 1, 1, 0, 0, 3, 1}, {2, 3, 3, 1, 1, 0, 0, 3, 1}, {2, 4, 4, 0, 0, 0, 0, 3, 1},
            {1, 2, 0, 1, 1, 0, 0, 2, 7}};
        for (int p = 0; p < dues.length; p++) {
            for (int what = 0; what < 9; what++) {
                due("piece " + p + " " + what, x.piece(p, what), dues[p][what]);
            }
        }
        hand(x, 3, "abc");
        due("shown", x.piece(3, 3), 3);
        due("made", x.piece(3, 4), 1);
        due("hand's", x.piece(3, 5), 1);
        due("what 9", x.piece(0, 9), NONE);
        due("what -1", x.piece(0, -1), NONE);
        due("p 7", x.piece(7, 1), NONE);
        due("p -1", x.piece(-1, 1), NONE);
        x.drop(2);
        due("gone", x.piece(3, 0), NONE);
        due("its kind stays", x.piece(3, 8), 1);
        due("its depth stays", x.piece(3, 7), 3);
        thing(x, "e", 'c', NONE);
        due("another with its number", x.piece(3, 0), NONE);
        due("not gone", x.piece(0, 0), 1);
    }

    private static void byteOf() {
        part = "13 byteOf";
        MadeMended x = new MadeMended();
        thing(x, "name", 'a', NONE);
        rule(x, 'a', "<n>word");
        x.make();
        due("shown", bytes(x, 0, 0), "name");
        due("made", bytes(x, 1, 1), "word");
        due("no B", x.byteOf(0, 2, 0), NONE);
        hand(x, 0, "a\u00ff");
        due("shown", bytes(x, 0, 0), "a\u00ff");
        due("made", bytes(x, 0, 1), "name");
        due("B", bytes(x, 0, 2), "name");
        due("i -1", x.byteOf(1, 0, -1), NONE);
        due("made is its own alone", x.byteOf(0, 1, 4), NONE);
        due("made ahead", x.byteOf(1, 1, -1), NONE);
        due("what 3", x.byteOf(0, 3, 0), NONE);
        due("what -1", x.byteOf(0, -1, 0), NONE);
        due("p 2", x.byteOf(2, 0, 0), NONE);
        due("p -1", x.byteOf(-1, 0, 0), NONE);
        due("far", x.byteOf(0, 1, Integer.MAX_VALUE), NONE);
    }

    // ---- promise 14 and III

    private static void hand() {
        part = "14 hand";
        MadeMended x = new MadeMended();
        thing(x, "name", 'a', NONE);
        rule(x, 'a', "<n><=>");
        x.make();
        tape(x, "abc");
        due("no piece", x.hand(2), false);
        due("no piece", x.hand(-1), false);
        due("tape stays", x.about(6), 3);
        due("one", x.hand(0), true);
        due("tape empty", x.about(6), 0);
        due("61", hand(x, 0, repeat("q", 61)), false);
        due("tape stays", x.about(6), 61);
        due("hand's stays", shown(x), "abc");
        due("60", hand(x, 0, repeat("q", 60)), true);
        due("shown", shown(x), repeat("q", 60));
        due("like the made", hand(x, 0, "name"), true);
        due("none", x.piece(0, 5), 0);
        due("tape empty", x.about(6), 0);
        due("an empty one", hand(x, 0, ""), true);
        due("is one", x.piece(0, 5), 1);
        due("is empty", x.piece(0, 3), 0);
        due("empty for a place", hand(x, 1, ""), true);
        due("is none", x.piece(1, 5), 0);
        due("place", hand(x, 1, "own"), true);
        due("shown", shown(x), "own");
        tape(x, "other");
        x.name(0);
        x.make();
        due("clash", x.piece(0, 6), 1);
        due("hand on a clash", hand(x, 0, "mine"), true);
        due("clash is gone", x.piece(0, 6), 0);
        due("B", bytes(x, 0, 2), "other");
        due("place kept", shown(x), "mineown");
    }

    private static void makersThatAreTheSame() {
        part = "II the same makers";
        MadeMended x = new MadeMended();
        thing(x, "r", 'a', NONE);
        thing(x, "s", 'b', 0);
        thing(x, "t", 'b', 0);
        rule(x, 'a', "<b>-<b>");
        rule(x, 'b', "<n>");
        x.make();
        hand(x, 0, "S");
        hand(x, 4, "T");
        x.move(2, 0);
        x.make();
        due("they go with their things and items", shown(x), "tS-Ts");
        hand(x, 0, "U");
        x.move(2, 1);
        x.make();
        due("in another order", shown(x), "SU-sT");
        hand(x, 1, "t");
        x.move(2, 0);
        x.make();
        due("and back", shown(x), "tS-Ts");
        rule(x, 'a', "<b>+<b>");
        rule(x, 'b', "<0>");
        x.make();
        due("another sort is another maker", shown(x), "00+00");
        due("lone", x.about(4), 2);
        due("in the order of pieces", loneText(x, 0) + loneText(x, 1), "ST");
        hand(x, 0, "77");
        rule(x, 'b', "<1>");
        x.number(2, 1, 5);
        x.make();
        due("another number is the same sort", shown(x), "770+50");
        due("as a clash", x.about(3), 1);
        rule(x, 'b', "<=><1>");
        x.make();
        due("another item's number", shown(x), "50+50");
        due("lone", x.about(4), 3);
        hand(x, 1, "Q");
        rule(x, 'a', "<=><b>+<b>");
        x.make();
        due("another item around", shown(x), "50+50");
        due("lone", loneText(x, 3), "Q");
        hand(x, 2, "Z");
        x.drop(2);
        thing(x, "t", 'b', 0);
        x.move(2, 0);
        x.number(2, 1, 5);
        x.make();
        due("a number used again is another thing", shown(x), "50+50");
        due("lone", loneText(x, 4), "Z");
    }

    private static void makingAnew() {
        part = "III making anew";
        MadeMended x = new MadeMended();
        thing(x, "t", 'a', NONE);
        rule(x, 'a', "a<0><=>");
        x.make();
        hand(x, 0, "A");
        hand(x, 1, "5");
        hand(x, 2, "!");
        x.make();
        due("kept", shown(x), "A5!");
        due("no clash", x.about(3), 0);
        x.number(0, 0, 6);
        x.make();
        due("clash shows the hand's", shown(x), "A5!");
        due("clash", x.piece(1, 6), 1);
        due("made", bytes(x, 1, 1), "6");
        due("B stays", bytes(x, 1, 2), "0");
        x.make();
        due("clash stays", x.piece(1, 6), 1);
        x.number(0, 0, 0);
        x.make();
        due("B like N: none", x.about(3), 0);
        due("hand's", x.piece(1, 5), 1);
        x.number(0, 0, 5);
        x.make();
        due("H like N: no hand's", x.piece(1, 5), 0);
        x.number(0, 0, 6);
        x.make();
        due("made is shown", shown(x), "A6!");
        rule(x, 'a', "b<0><=>");
        x.make();
        due("a word's clash", x.piece(0, 6), 1);
        due("lone none", x.about(4), 0);
        rule(x, 'a', repeat("w", 120));
        x.make();
        hand(x, 0, "short");
        x.make();
        due("a long B", bytes(x, 0, 2), repeat("w", 120));
    }

    // ---- promises 15 and 16

    private static void take() {
        part = "15 take";
        MadeMended x = new MadeMended();
        thing(x, "t", 'a', NONE);
        rule(x, 'a', "<0><1>");
        x.make();
        hand(x, 0, "x");
        hand(x, 1, "y");
        due("no clash", x.take(0, 0), false);
        x.number(0, 0, 1);
        x.number(0, 1, 1);
        x.make();
        due("which 2", x.take(0, 2), false);
        due("which -1", x.take(0, -1), false);
        due("p 2", x.take(2, 0), false);
        due("p -1", x.take(-1, 0), false);
        due("two", x.about(3), 2);
        due("hand's stays", x.take(0, 0), true);
        due("B is N", bytes(x, 0, 2), "1");
        due("again", x.take(0, 0), false);
        due("made", x.take(1, 1), true);
        due("shown", shown(x), "x1");
        due("no hand's", x.piece(1, 5), 0);
        due("none", x.about(3), 0);
        x.make();
        due("none anew", x.about(3), 0);
        x.number(0, 0, 0);
        x.make();
        due("the old B is no B any more", x.piece(0, 6), 1);
    }

    private static void back() {
        part = "16 back";
        MadeMended x = new MadeMended();
        thing(x, "t", 'a', NONE);
        rule(x, 'a', "<0>w<+01><n><=><1>");
        x.make();
        due("no hand's", x.back(0), NONE);
        for (int p = 1; p < 5; p++) {
            hand(x, p, "12");
            due("another sort", x.back(p), NONE);
            x.make();
        }
        for (String bad : new String[] {"", "00", "01", "100000", "1a", "-1", " 1", "1 ", "/", ":"}) {
            due("hand " + bad, hand(x, 0, bad), true);
            due("back " + bad, x.back(0), NONE);
            due("hand's stays", x.piece(0, 5), 1);
        }
        due("number stays", x.thingOf(0, 10), 0);
        hand(x, 0, "99999");
        due("most", x.back(0), 6);
        due("number", x.thingOf(0, 10), 99999);
        due("none", x.piece(0, 5), 0);
        due("made anew", bytes(x, 2, 1), "99999");
        hand(x, 0, "0");
        due("least", x.back(0), 6);
        due("number", x.thingOf(0, 10), 0);
        due("p 6", x.back(6), NONE);
        due("p -1", x.back(-1), NONE);
        hand(x, 0, "4");
        x.number(0, 0, 3);
        x.make();
        due("a clash too", x.piece(0, 6), 1);
        due("goes back", x.back(0), 6);
        due("number", x.thingOf(0, 10), 4);
        hand(x, 0, "8");
        x.drop(0);
        due("gone", x.back(0), NONE);
        thing(x, "t", 'a', NONE);
        due("gone still", x.back(0), NONE);

        MadeMended y = new MadeMended();
        thing(y, "t", 'a', NONE);
        thing(y, "u", 'b', 0);
        thing(y, "u", 'b', 0);
        rule(y, 'a', "<0><?0><b><b><b><b><b><b><b><!>");
        rule(y, 'b', repeat("<=>", 20));
        y.make();
        hand(y, 0, "1");
        due("FULL", y.back(0), NONE);
        due("number stays", y.thingOf(0, 10), 0);
        due("hand's stays", y.piece(0, 5), 1);
        due("pieces stay", y.about(1), 1);
    }

    private static void backByTheNumberItWasMadeOf() {
        part = "16 back after another rule";
        MadeMended x = new MadeMended();
        thing(x, "t", 'a', NONE);
        rule(x, 'a', "<2>");
        x.make();
        hand(x, 0, "31");
        rule(x, 'a', "gone");
        due("back", x.back(0), 1);
        due("number", x.thingOf(0, 12), 31);
        due("text", shown(x), "gone");
        due("the hand's is gone, not lone", x.about(4), 0);
    }

    // ---- promise 17

    private static void touch() {
        part = "17 touch";
        MadeMended x = new MadeMended();
        due("no thing", x.touch(0, 0, 0, 0), NONE);
        thing(x, "t", 'a', NONE);
        rule(x, 'a', "<0><?1>ab<2><!><+01>z");
        x.make();
        due("nothing other", x.touch(0, 0, 0, 0), 0);
        due("number and sum", x.touch(0, 0, 5, 0), 2);
        due("two more, two other", x.touch(0, 1, 5, 0), 4);
        due("pieces", x.touch(0, 1, 5, 3), 5);
        due("unchanged", x.thingOf(0, 11), 0);
        due("unchanged", x.about(1), 3);
        x.number(0, 1, 1);
        x.make();
        hand(x, 0, "7");
        hand(x, 1, "CD");
        hand(x, 2, "EF");
        due("fewer", x.touch(0, 1, 0, 0), 4);
        due("lone ones more", x.touch(0, 1, 0, 2), 2);
        due("clashes", x.touch(0, 0, 3, 1), 1);
        due("shown otherwise", x.touch(0, 0, 3, 0), 1);
        due("like the hand's", x.touch(0, 0, 7, 1), 0);
        due("none lone", x.touch(0, 0, 7, 2), 0);
        due("lone unchanged", x.about(4), 0);
        due("clashes unchanged", x.about(3), 0);
        due("text unchanged", shown(x), "7CDEF1z");
        due("what 4", x.touch(0, 0, 0, 4), NONE);
        due("what -1", x.touch(0, 0, 0, -1), NONE);
        due("j 4", x.touch(0, 4, 0, 0), NONE);
        due("j -1", x.touch(0, -1, 0, 0), NONE);
        due("v", x.touch(0, 0, 100000, 0), NONE);
        due("v -1", x.touch(0, 0, -1, 0), NONE);
        due("t", x.touch(1, 0, 0, 0), NONE);
        x.number(0, 1, 0);
        x.make();
        due("made as before", x.about(4), 2);
        due("texts", loneText(x, 0) + loneText(x, 1), "CDEF");

        MadeMended y = new MadeMended();
        thing(y, "t", 'a', NONE);
        thing(y, "u", 'b', 0);
        rule(y, 'a', "<?3>" + repeat("<b>", 13) + "<!>");
        rule(y, 'b', repeat("<=>", 20));
        y.make();
        due("FULL", y.touch(0, 3, 1, 3), NONE);
        due("not FULL", y.touch(0, 3, 0, 3), 0);
        due("unchanged", y.thingOf(0, 13), 0);
    }

    // ---- promises 18 and 19

    private static void textAndMaker() {
        part = "18, 19 text and maker";
        MadeMended x = new MadeMended();
        thing(x, "ab", 'a', NONE);
        rule(x, 'a', "<=><n><=><0>cd");
        x.make();
        due("text", shown(x), "ab0cd");
        int[] makers = {1, 1, 3, 4, 4, NONE};
        for (int i = 0; i < makers.length; i++) {
            due("maker " + i, x.maker(i), makers[i]);
        }
        hand(x, 2, "\u0000\u00ff");
        hand(x, 1, "");
        due("text", shown(x), "\u0000\u00ff0cd");
        due("maker 0", x.maker(0), 2);
        due("maker 2", x.maker(2), 3);
        due("maker 4", x.maker(4), 4);
        due("maker 5", x.maker(5), NONE);
        due("maker -1", x.maker(-1), NONE);
        due("text -1", x.text(-1), NONE);
        due("text least", x.text(Integer.MIN_VALUE), NONE);
        due("text most", x.text(Integer.MAX_VALUE), NONE);
    }

    // ---- promises 20 and 21

    private static void lone() {
        part = "20, 21 lone and drops";
        MadeMended x = new MadeMended();
        thing(x, "t", 'a', NONE);
        rule(x, 'a', "w<0><+00><n><=>");
        x.make();
        for (int p = 0; p < 5; p++) {
            hand(x, p, repeat("" + (char) ('A' + p), p + 1));
        }
        hand(x, 1, "");
        rule(x, 'a', "");
        x.make();
        due("five", x.about(4), 5);
        due("length", x.lone(2, 3, 99), 3);
        due("empty", x.lone(1, 3, 0), 0);
        due("empty, no byte", x.lone(1, 0, 0), NONE);
        int[] sorts = {0, 2, 3, 1, 4};
        for (int l = 0; l < 5; l++) {
            due("sort " + l, x.lone(l, 1, -5), sorts[l]);
            due("item " + l, x.lone(l, 2, 77), l);
        }
        due("byte", x.lone(4, 0, 4), (int) 'E');
        due("no byte", x.lone(4, 0, 5), NONE);
        due("no byte", x.lone(4, 0, -1), NONE);
        due("what 4", x.lone(0, 4, 0), NONE);
        due("what -1", x.lone(0, -1, 0), NONE);
        due("l 5", x.lone(5, 1, 0), NONE);
        due("l -1", x.lone(-1, 1, 0), NONE);
        due("drops 5", x.drops(5), false);
        due("drops -1", x.drops(-1), false);
        due("drops 1", x.drops(1), true);
        due("ahead stays", loneText(x, 0), "A");
        due("forward", loneText(x, 1), "CCC");
        due("four", x.about(4), 4);
        due("none fell out", x.about(5), 0);
    }

    private static void loneFallOut() {
        part = "III lone texts fall out";
        MadeMended x = new MadeMended();
        thing(x, "t", 'a', NONE);
        for (int round = 0; round < 3; round++) {
            rule(x, 'a', repeat("<=>", 14));
            x.make();
            for (int p = 0; p < 14; p++) {
                hand(x, p, "" + (char) ('a' + p) + round);
            }
            rule(x, 'a', "");
            if (round == 2) {
                due("touch counts them", x.touch(0, 0, 1, 2), 14);
            }
            x.make();
            due("kept", x.about(4), Math.min(30, 14 * (round + 1)));
        }
        due("fell out", x.about(5), 12);
        due("earliest is", loneText(x, 0), "m0");
        due("latest is", loneText(x, 29), "n2");
        due("no more", x.lone(30, 3, 0), NONE);
        x.drops(0);
        due("dropped ones are not counted", x.about(5), 12);
    }

    // ---- promises 22 and 23

    private static void thingOf() {
        part = "22 thingOf";
        MadeMended x = new MadeMended();
        due("none", x.thingOf(0, 0), NONE);
        thing(x, "Abc", 'c', NONE);
        thing(x, "d", 'd', 0);
        thing(x, "ez", 'e', 0);
        for (int j = 0; j < 4; j++) {
            x.number(2, j, 100 + j);
            due("number " + j, x.thingOf(2, 10 + j), 100 + j);
        }
        due("kind", x.thingOf(2, 0), 4);
        due("in", x.thingOf(2, 1), 0);
        due("in none", x.thingOf(0, 1), NONE);
        due("place", x.thingOf(2, 2), 1);
        due("length", x.thingOf(0, 3), 3);
        due("letter", x.thingOf(0, 100), (int) 'A');
        due("letter", x.thingOf(0, 102), (int) 'c');
        for (int what : new int[] {-1, 4, 9, 14, 99, 103, Integer.MAX_VALUE, Integer.MIN_VALUE}) {
            due("what " + what, x.thingOf(0, what), NONE);
        }
        due("t -1", x.thingOf(-1, 0), NONE);
        due("t 24", x.thingOf(24, 0), NONE);
        due("t 3", x.thingOf(3, 0), NONE);
    }

    private static void about() {
        part = "23 about";
        MadeMended x = new MadeMended();
        thing(x, "ab", 'a', NONE);
        thing(x, "cd", 'b', 0);
        rule(x, 'a', "<n><b>");
        rule(x, 'b', "<0><?0>x<!>");
        x.make();
        hand(x, 1, "777");
        x.number(1, 0, 2);
        x.make();
        x.feed(1, 2, 3, 4, 5);
        int[] dues = {2, 3, 6, 1, 0, 0, 20, NONE, NONE, NONE, 2, 4, 0, 0, 0, 0, 0, 0, NONE};
        for (int what = 0; what < dues.length; what++) {
            due("what " + what, x.about(what), dues[what]);
        }
        due("what -1", x.about(-1), NONE);
        due("what most", x.about(Integer.MAX_VALUE), NONE);
        due("what least", x.about(Integer.MIN_VALUE), NONE);
    }
}
