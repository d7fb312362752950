import java.util.List;

/** What is asked: sets that are just books and just not, of alike ones the first, nothing kept, all alike. */
public final class AskedEdgesTest {
    private static final String SIXTEEN = "throw 0;throw 1;throw 2;throw 3;throw 4;throw 5;throw 6;throw 7;throw 8;"
            + "throw 9;throw 10;throw 11;throw 12;throw 13;throw 14;throw 15;";

    private final Check check = new Check();

    public static void main(String[] args) {
        AskedEdgesTest test = new AskedEdgesTest();
        test.nothingTold();
        test.nothingKept();
        test.sizesOfBooks();
        test.scenesOfBooks();
        test.wishesOfBooks();
        test.bestBooks();
        test.costs();
        test.swaps();
        test.swapsOfAlikeOnes();
        test.heaps();
        test.doubles();
        test.persons();
        test.together();
        test.friends();
        test.missing();
        test.days();
        test.scenes();
        test.favourites();
        test.strict();
        test.thoughts();
        test.wrapping();
        test.check.end("AskedEdgesTest");
    }

    private Case of(String name, String summer) {
        return new Case(check, name, summer);
    }

    private static long one(boolean is) {
        return is ? 1 : 0;
    }

    /** Pictures of as many scenes, from 0 on. */
    private static String apart(int many, String dayToPeople) {
        StringBuilder s = new StringBuilder();
        for (int scene = 0; scene < many; scene++) {
            s.append("picture ").append(dayToPeople).append(' ').append(scene).append(';');
        }
        return s.toString();
    }

    // ---- nothing told, nothing kept ----

    private void nothingTold() {
        asksOfNothing(of("nothing told", ""));
        of("nothing told", "").due("no set but the empty one", Check.BAD_ARGUMENT, x -> x.swap(1, 0))
                .due("no picture", Check.NO_ELEMENT, x -> x.picture(0, 0))
                .due("no picture to be thought of", Check.NO_ELEMENT, x -> x.thought(0))
                .due("no picture to be double", Check.NO_ELEMENT, x -> x.doubles(0))
                .due("no picture to be binned", Check.NO_ELEMENT, x -> x.binned(0))
                .due("no picture to span", Check.BAD_ARGUMENT, x -> x.span(1, 1, 1, 0, 0, 0, 0)).refused(4, 2);
    }

    private void nothingKept() {
        String all = "picture 3 9 40 63 7;".repeat(16) + "bin 1;";
        String looked = "look 0;look 9;";
        asksOfNothing(of("all thrown", all).work(looked + SIXTEEN, 18, 0).told(5, 16)).due("tired", 2,
                x -> x.goesOn(9, 60, 0, 99, 1));
        asksOfNothing(of("all gone", all).work(looked + SIXTEEN, 18, 0).work("evening;", 1).told(6, 16));
        of("all gone", all).work(SIXTEEN, 16).work("evening;", 1).due("double of none", 0, x -> x.doubles(15))
                .due("put out, nothing to put in", -1, x -> x.swap(65535, 0)).due("thought", 40, x -> x.thought(15))
                .due("none is looked at", 0, x -> x.span(1, 20, 60, 16, 99, 1, 15)).picture(15, 3, 63);
    }

    private Case asksOfNothing(Case none) {
        none.told(4, 0).due("favourite", -1, x -> x.favourite()).due("strict", 0, x -> x.strict(0));
        for (int what = 0; what <= 2; what++) {
            int w = what;
            none.due("books " + w, w == 0 ? 0 : -1, x -> x.books(w)).due("heaps " + w, 0, x -> x.heaps(w));
            none.due("swap " + w, -1, x -> x.swap(0, w));
        }
        for (int person = 0; person < 6; person++) {
            int p = person;
            none.due("cost " + p, -2, x -> x.cost(p)).due("person " + p, 0, x -> x.person(p, 1));
            none.due("together " + p, 0, x -> x.together(p, 5 - p, 0) + x.together(p, p, 0) + x.together(p, p, 1));
            none.due("friend " + p, -1, x -> x.friend(p, 0)).due("friend's " + p, -1, x -> x.friend(p, 1));
        }
        none.due("isBook", 0, x -> one(x.isBook(0))).due("missing", 0, x -> x.missing());
        none.due("day", 0, x -> x.day(3, 0)).due("day's", -1, x -> x.day(3, 1));
        none.due("scene", 0, x -> x.scene(7, 0)).due("scene's", -1, x -> x.scene(7, 1));
        none.due("order", 0, x -> x.order(0)).due("ordered", -1, x -> x.ordered(0, 0));
        return none.due("goesOn", 0, x -> x.goesOn(9, 60, 16, 99, 0) + x.goesOn(9, 60, 16, 99, 2)
                + x.goesOn(9, 60, 16, 99, 3));
    }

    // ---- books ----

    private void sizesOfBooks() {
        for (int size = 0; size <= 8; size++) {
            int k = size;
            Case just = of("size " + k, apart(k, "0 0 5 0") + "size " + k + ";");
            just.due("books", 1, x -> x.books(0)).due("value", 5 * k, x -> x.books(1));
            just.due("bits", (1 << k) - 1, x -> x.books(2)).due("all", 1, x -> one(x.isBook((1 << k) - 1)));
            if (k > 0) {
                just.due("one too few", 0, x -> one(x.isBook((1 << k - 1) - 1)));
                just.work("throw " + (k - 1) + ";", 1).due("one is not kept", 0, x -> x.books(0));
                just.due("value of none", -1, x -> x.books(1)).due("bits of none", -1, x -> x.books(2));
                just.due("not kept", 0, x -> one(x.isBook((1 << k) - 1)));
                just.work("save " + (k - 1) + ";", 1).due("saved", 1, x -> x.books(0));
            }
            of("size " + k + " of one more", apart(k + 1, "0 0 5 0") + "size " + k + ";")
                    .due("books", k + 1, x -> x.books(0)).due("value", 5 * k, x -> x.books(1))
                    .due("one too many", 0, x -> one(x.isBook((1 << k + 1) - 1)));
        }
        of("size 4 without", apart(4, "0 0 1 0")).due("books", 1, x -> x.books(0)).due("bits", 15, x -> x.books(2));
        of("three, size 4", apart(3, "0 0 1 0")).due("books", 0, x -> x.books(0));
    }

    private void scenesOfBooks() {
        String twice = "picture 0 0 9 0 4;picture 0 0 8 0 4;picture 0 0 1 0 9;size 2;";
        of("no two of one scene", twice).due("books", 2, x -> x.books(0)).due("value", 10, x -> x.books(1))
                .due("bits", 5, x -> x.books(2)).due("one scene", 0, x -> one(x.isBook(3)))
                .due("two scenes", 1, x -> one(x.isBook(6))).work("throw 2;", 1).due("one scene", 0, x -> x.books(0));
        of("scenes 0 and 9", "picture 0 0 9 0 0;picture 0 0 8 0 9;picture 0 0 7 0 9;picture 0 0 6 0 0;size 2;")
                .due("books", 4, x -> x.books(0)).due("bits", 3, x -> x.books(2)).due("0, 0", 0, x -> one(x.isBook(9)))
                .due("9, 9", 0, x -> one(x.isBook(6)));
        of("sixteen of one scene", "picture 0 0 2 0 3;".repeat(16) + "size 1;").due("books", 16, x -> x.books(0))
                .due("bits", 1, x -> x.books(2)).due("the last", 1, x -> one(x.isBook(1 << 15)));
        of("sixteen of eight scenes", (apart(8, "0 0 3 0") + apart(8, "0 0 3 0")) + "size 8;")
                .due("books", 256, x -> x.books(0)).due("value", 24, x -> x.books(1)).due("bits", 255, x -> x.books(2))
                .due("the last eight", 1, x -> one(x.isBook(0xff00)));
    }

    private void wishesOfBooks() {
        String pictures = "picture 0 0 9 0 0;picture 0 0 8 32 1;picture 0 0 7 33 2;size 2;";
        of("none wished", pictures).due("books", 3, x -> x.books(0)).due("bits", 3, x -> x.books(2));
        of("0 wished", pictures + "wish 5 0;").due("books", 3, x -> x.books(0));
        of("1 wished", pictures + "wish 0 1;").due("books", 2, x -> x.books(0)).due("bits", 5, x -> x.books(2))
                .due("not met", 0, x -> one(x.isBook(3))).due("met", 1, x -> one(x.isBook(6)));
        of("2 wished", pictures + "wish 5 2;").due("books", 1, x -> x.books(0)).due("bits", 6, x -> x.books(2))
                .due("one less", 0, x -> one(x.isBook(5)));
        of("more than the size", pictures + "wish 5 3;").due("books", 0, x -> x.books(0));
        of("two people", pictures + "wish 5 1;wish 0 1;").due("books", 2, x -> x.books(0));
        of("8 wished", apart(8, "0 0 1 63") + "size 8;wish 0 8;wish 5 8;").due("books", 1, x -> x.books(0))
                .due("missing", 0, x -> x.missing());
        of("8 wished of 7", apart(7, "0 0 1 63") + "picture 0 0 1 31 8;size 8;wish 0 8;wish 5 8;")
                .due("books", 0, x -> x.books(0)).due("cost", -1, x -> x.cost(5)).due("missing", 32, x -> x.missing());
        of("of none, wished", "size 0;wish 3 1;").due("books", 0, x -> x.books(0)).due("set", 0, x -> one(x.isBook(0)))
                .due("cost", -1, x -> x.cost(3)).due("cost", -2, x -> x.cost(2));
    }

    private void bestBooks() {
        of("worth nothing", apart(3, "0 0 0 0") + "size 2;").due("value", 0, x -> x.books(1))
                .due("the least bits", 3, x -> x.books(2));
        of("least bits, not least pictures", "picture 0 0 1 0 0;picture 0 0 2 0 1;picture 0 0 2 0 2;picture 0 0 3 0 3;"
                + "size 2;").due("value", 5, x -> x.books(1)).due("1 and 3, not 2 and 3", 10, x -> x.books(2));
        of("without that", "picture 0 0 1 0 0;picture 0 0 2 0 1;picture 0 0 2 0 2;picture 0 0 3 0 3;"
                + "size 2;").work("throw 3;", 1).due("value", 4, x -> x.books(1)).due("bits", 6, x -> x.books(2));
        of("least bits of 6 and 9", "picture 0 0 3 4 0;picture 0 0 2 1 1;picture 0 0 2 2 2;picture 0 0 1 3 3;size 2;"
                + "wish 0 1;wish 1 1;").due("books", 4, x -> x.books(0)).due("value", 4, x -> x.books(1))
                .due("1 and 2 ahead of 0 and 3", 6, x -> x.books(2));
        of("the most that is worth", apart(8, "0 0 40 0") + "size 8;").due("value", 320, x -> x.books(1));
    }

    private void costs() {
        String pictures = "picture 0 0 30 0 0;picture 0 0 20 1 1;picture 0 0 9 3 2;picture 0 0 1 4 3;";
        of("cost 0: it is met", pictures + "size 2;wish 0 1;").due("cost", 0, x -> x.cost(0));
        of("cost of 2", pictures + "size 2;wish 0 2;").due("cost", 50 - 29, x -> x.cost(0))
                .due("no wish", 0, x -> x.cost(1)).due("no wish", 0, x -> x.cost(5));
        of("each by itself", pictures + "size 2;wish 1 1;wish 2 1;").due("one", 31 - 10, x -> x.cost(1))
                .due("the other", 39 - 10, x -> x.cost(2));
        of("nobody", pictures + "size 2;wish 3 1;").due("a book only then", -1, x -> x.cost(3))
                .due("none either way", -2, x -> x.cost(0));
        of("two that nobody meets", pictures + "size 2;wish 3 1;wish 4 1;").due("cost", -2, x -> x.cost(3))
                .due("cost", -2, x -> x.cost(4)).due("cost", -2, x -> x.cost(5));
        of("too few pictures", pictures + "size 5;wish 0 1;").due("cost", -2, x -> x.cost(0));
        of("kept ones alone", pictures + "size 1;wish 2 1;").due("cost", 29, x -> x.cost(2)).work("throw 0;", 1)
                .due("cost", 19, x -> x.cost(2)).work("throw 3;", 1).due("cost", -1, x -> x.cost(2))
                .due("it stays wished", 1, x -> x.person(2, 0)).due("no person", Check.NO_ELEMENT, x -> x.cost(6));
    }

    // ---- swaps ----

    private void swaps() {
        String four = "picture 0 5 0 0 0;picture 0 9 0 0 0;picture 0 0 0 0 0;picture 0 7 0 0 0;bin 1;";
        swap(of("the best", four), 1, 0, 1, 9);
        swap(of("the worst goes", four), 5, 2, 1, 14);
        swap(of("for less", four), 10, 3, 0, 14);
        swap(of("for nothing sharp", four).work("throw 0;throw 3;", 2), 2, 1, 2, 0);
        swap(of("a set of none", four), 0, -1, -1, -1);
        swap(of("a set of all", four), 15, -1, -1, -1);
        swap(of("nothing else is kept", four).work("throw 0;throw 3;", 2), 6, -1, -1, -1);
        swap(of("thrown ones are not put in", four).work("throw 1;", 1), 4, 2, 3, 7);
        swap(of("gone ones are not put in", four).work("throw 1;evening;", 2), 4, 2, 3, 7);
        swap(of("a thrown one is put out", four).work("throw 2;", 1), 4, 2, 1, 9);
        swap(of("a gone one is put out", four).work("throw 2;evening;", 2), 12, 2, 1, 16);
        swap(of("a thrown one stays in", four).work("throw 1;", 1), 6, 2, 3, 16);
        swap(of("one picture", "picture 0 9 0 0 0;"), 1, -1, -1, -1);
        swap(of("sixteen", "picture 0 8 0 0 0;".repeat(15) + "picture 0 9 0 0 0;"), 0x7fff, 0, 15, 15 * 8 + 1);
        swap(of("fifteen behind", "picture 0 9 0 0 0;" + "picture 0 8 0 0 0;".repeat(15)), 0xfffe, 1, 0, 15 * 8 + 1);
        of("bits", four).due("the first that is no picture", Check.BAD_ARGUMENT, x -> x.swap(16, 0))
                .due("the last bit", Check.BAD_ARGUMENT, x -> x.isBook(Integer.MIN_VALUE) ? 1 : 0).refused(0, 2);
    }

    private void swapsOfAlikeOnes() {
        String alike = "picture 0 5 0 0 0;picture 0 5 0 0 0;picture 0 8 0 0 0;picture 0 8 0 0 0;picture 0 5 0 0 0;";
        swap(of("the least out, the least in", alike), 3, 0, 2, 13);
        swap(of("the least out, though another is in", alike).work("throw 2;", 1), 3, 0, 3, 13);
        swap(of("out of the end", alike), 24, 4, 2, 16);
        swap(of("out goes ahead of in", alike), 17, 0, 2, 13);
        swap(of("all alike", "picture 0 5 0 0 0;".repeat(4)), 10, 1, 0, 10);
        swap(of("all alike, the last two", "picture 0 5 0 0 0;".repeat(4)), 12, 2, 0, 10);
    }

    private void swap(Case one, int bits, int out, int in, int sharp) {
        one.due("out of " + bits, out, x -> x.swap(bits, 0)).due("into " + bits, in, x -> x.swap(bits, 1));
        one.due("sharp of " + bits, sharp, x -> x.swap(bits, 2));
    }

    // ---- doubles ----

    private void heaps() {
        String sixteen = "picture 0 0 0 7 3;".repeat(16);
        heaps(of("all one heap", sixteen), 1, 16, 15);
        heaps(of("all but one", sixteen).work("throw 0;", 1), 1, 15, 14);
        heaps(of("one picture", "picture 0 0 0 0 0;"), 1, 1, 0);
        heaps(of("scenes alone", apart(10, "1 2 3 4")), 10, 1, 0);
        heaps(of("people alone", "picture 0 0 0 0 3;picture 0 0 0 1 3;picture 0 0 0 3 3;picture 0 0 0 63 3;"), 4, 1, 0);
        heaps(of("days, sharp, worth don't count", "picture 0 0 0 5 3;picture 9 8 7 5 3;"), 1, 2, 1);
        heaps(of("two and three", "picture 0 0 0 5 3;picture 0 0 0 5 4;picture 0 0 0 5 3;picture 0 0 0 5 4;"
                + "picture 0 0 0 5 4;"), 2, 3, 3);
        heaps(of("all but one gone", sixteen + "bin 1;").work(SIXTEEN, 16).work("save 7;evening;", 2), 1, 1, 0);
    }

    private void heaps(Case one, int many, int greatest, int compared) {
        one.due("heaps", many, x -> x.heaps(0)).due("the greatest", greatest, x -> x.heaps(1));
        one.due("compared", compared, x -> x.heaps(2));
    }

    private void doubles() {
        Case all = of("doubles", "picture 0 0 0 7 3;".repeat(16) + "bin 1;");
        all.due("all", 65535, x -> x.doubles(0)).due("all", 65535, x -> x.doubles(15));
        all.work("throw 0;", 1).due("not kept", 0, x -> x.doubles(0)).due("the others", 65534, x -> x.doubles(15));
        all.work("evening;", 1).due("gone", 0, x -> x.doubles(0)).work("throw 15;save 15;", 2);
        all.due("saved", 65534, x -> x.doubles(15)).due("no picture", Check.NO_ELEMENT, x -> x.doubles(16));
        of("single", "picture 0 0 0 7 3;picture 0 0 0 7 4;picture 0 0 0 6 3;").due("by itself", 1, x -> x.doubles(0))
                .due("another scene", 2, x -> x.doubles(1)).due("other people", 4, x -> x.doubles(2));
    }

    // ---- people ----

    private void persons() {
        Case all = of("persons", "picture 0 0 0 63 0;".repeat(16) + "wish 0 8;wish 5 1;bin 1;");
        for (int person = 0; person < 6; person++) {
            int p = person;
            all.due("on all", 16, x -> x.person(p, 1));
            all.due("wished", p == 0 ? 8 : p == 5 ? 1 : 0, x -> x.person(p, 0));
        }
        all.work("throw 0;", 1).due("thrown", 15, x -> x.person(5, 1)).work("evening;", 1).due("gone", 15, x -> x.person(5, 1));
        for (int person = 0; person < 6; person++) {
            int p = person;
            of("one alone", "picture 0 0 0 " + (1 << p) + " 0;").due("he", 1, x -> x.person(p, 1))
                    .due("another", 0, x -> x.person((p + 1) % 6, 1)).law("people").due("people", 1, x -> x.thought(0));
            of("all others", "picture 0 0 0 " + (63 - (1 << p)) + " 0;").due("he", 0, x -> x.person(p, 1))
                    .due("another", 1, x -> x.person((p + 1) % 6, 1)).law("people").due("people", 5, x -> x.thought(0));
        }
    }

    private void together() {
        Case some = of("together", "picture 0 0 0 33 0;picture 0 0 0 63 0;picture 0 0 0 1 0;picture 0 0 0 32 0;"
                + "picture 0 0 0 35 0;picture 0 0 0 33 0;bin 1;");
        some.due("two", 4, x -> x.together(0, 5, 0)).due("the other way", 4, x -> x.together(5, 0, 0));
        some.due("just two", 33, x -> x.together(0, 5, 1)).due("the other way", 33, x -> x.together(5, 0, 1));
        some.due("one twice: as person", 5, x -> x.together(0, 0, 0)).due("person", 5, x -> x.person(0, 1));
        some.due("just one", 4, x -> x.together(0, 0, 1)).due("just one", 8, x -> x.together(5, 5, 1));
        some.due("not on just two", 0, x -> x.together(2, 3, 1)).due("but both", 1, x -> x.together(2, 3, 0));
        some.work("throw 5;", 1).due("thrown", 1, x -> x.together(0, 5, 1)).work("evening;", 1);
        some.due("gone", 3, x -> x.together(0, 5, 0)).due("gone", 1, x -> x.together(5, 0, 1));
        of("the last of sixteen", "picture 0 0 0 3 0;".repeat(16)).due("all", 65535, x -> x.together(0, 1, 1))
                .due("all", 16, x -> x.together(1, 0, 0)).due("one twice", 0, x -> x.together(1, 1, 1));
    }

    private void friends() {
        Case some = of("friends", "picture 0 0 0 3 0;picture 0 0 0 33 0;picture 0 0 0 33 0;picture 0 0 0 3 0;"
                + "picture 0 0 0 16 0;");
        friend(some, 0, 1, 2);
        friend(some, 1, 0, 2);
        friend(some, 5, 0, 2);
        friend(some, 4, -1, -1);
        friend(some, 2, -1, -1);
        some.work("throw 0;", 1);
        friend(some, 0, 5, 2);
        friend(some, 1, 0, 1);
        some.work("throw 3;", 1);
        friend(some, 1, -1, -1);
        Case all = of("all", "picture 0 0 0 63 0;".repeat(16));
        friend(all, 0, 1, 16);
        friend(all, 1, 0, 16);
        friend(all, 5, 0, 16);
    }

    private void friend(Case one, int person, int other, int many) {
        one.due("friend of " + person, other, x -> x.friend(person, 0));
        one.due("how often " + person, many, x -> x.friend(person, 1));
    }

    private void missing() {
        String two = "picture 0 0 0 63 0;picture 0 0 0 33 0;bin 1;";
        of("none wished", two).due("missing", 0, x -> x.missing());
        of("just as many", two + "wish 0 2;wish 1 1;").due("missing", 0, x -> x.missing());
        of("one more", two + "wish 0 3;wish 1 2;wish 5 8;").due("missing", 35, x -> x.missing());
        of("kept ones alone", two + "wish 0 2;wish 5 1;").work("throw 1;", 1).due("missing", 1, x -> x.missing())
                .work("evening;throw 0;", 2).due("missing", 33, x -> x.missing()).work("save 0;", 1)
                .due("missing", 1, x -> x.missing());
        of("all", "wish 0 1;wish 1 1;wish 2 1;wish 3 1;wish 4 1;wish 5 1;").due("missing", 63, x -> x.missing());
        of("enough of them, though no book", two + "size 1;wish 1 1;wish 0 2;").due("missing", 0, x -> x.missing())
                .due("books", 0, x -> x.books(0));
    }

    // ---- days, scenes ----

    private void days() {
        Case some = of("days", "picture 0 0 7 0 0;picture 30 0 40 0 0;picture 0 0 9 0 0;picture 0 0 9 0 0;"
                + "picture 30 0 0 0 0;bin 1;");
        some.due("0", 3, x -> x.day(0, 0)).due("30", 2, x -> x.day(30, 0)).due("1", 0, x -> x.day(1, 0));
        some.due("of alike ones the first", 2, x -> x.day(0, 1)).due("30", 1, x -> x.day(30, 1));
        some.due("none", -1, x -> x.day(29, 1)).work("throw 2;throw 1;", 2).due("then the other", 3, x -> x.day(0, 1));
        some.due("worth nothing", 4, x -> x.day(30, 1)).work("evening;throw 4;", 2).due("none", -1, x -> x.day(30, 1));
        some.due("none", 0, x -> x.day(30, 0)).due("gone ones don't count", 2, x -> x.day(0, 0));
        of("all of one", "picture 17 0 5 0 0;".repeat(16)).due("many", 16, x -> x.day(17, 0))
                .due("the first", 0, x -> x.day(17, 1));
    }

    private void scenes() {
        Case some = of("scenes", "picture 0 7 0 0 0;picture 0 9 0 0 9;picture 0 8 0 0 0;picture 0 8 0 0 0;"
                + "picture 0 0 0 0 9;bin 1;");
        some.due("0", 3, x -> x.scene(0, 0)).due("9", 2, x -> x.scene(9, 0)).due("1", 0, x -> x.scene(1, 0));
        some.due("of alike ones the first", 2, x -> x.scene(0, 1)).due("9", 1, x -> x.scene(9, 1));
        some.due("none", -1, x -> x.scene(8, 1)).work("throw 2;throw 1;", 2).due("the other", 3, x -> x.scene(0, 1));
        some.due("not sharp", 4, x -> x.scene(9, 1)).work("evening;throw 4;", 2).due("none", -1, x -> x.scene(9, 1));
        some.due("none", 0, x -> x.scene(9, 0)).due("gone ones don't count", 2, x -> x.scene(0, 0));
        of("all of one", "picture 0 5 0 0 6;".repeat(16)).due("many", 16, x -> x.scene(6, 0))
                .due("the first", 0, x -> x.scene(6, 1));
    }

    // ---- what is thought ----

    private void favourites() {
        String three = "picture 0 0 5 0 0;picture 0 0 9 0 0;picture 0 0 9 0 0;tire 0;bin 1;";
        Case some = of("favourite", three).due("none looked at", -1, x -> x.favourite()).work("look 0;", 1);
        some.due("the only one", 0, x -> x.favourite()).work("look 2;", 1).due("more", 2, x -> x.favourite());
        some.work("look 1;", 1).due("of alike ones the first", 1, x -> x.favourite());
        some.law("0").work("look 1;look 2;", 2).due("what was thought latest", 0, x -> x.favourite());
        some.work("throw 0;", 1).due("0 thought of them", 1, x -> x.favourite());
        some.work("evening;", 1).due("gone", 1, x -> x.favourite()).work("throw 1;throw 2;", 2);
        some.due("none kept", -1, x -> x.favourite()).work("save 2;", 1).due("saved", 2, x -> x.favourite());
    }

    private void strict() {
        Case some = of("strict", apart(4, "0 0 0 0") + "tire 1;bin 1;").law("tired*33").work("look 0;look 1;look 2;look 3;",
                4);
        for (int n = 0; n <= 16; n++) {
            int many = n;
            some.due("of " + many, many == 0 ? 100 : many < 4 ? 100 - 33 * many : 0, x -> x.strict(many));
        }
        some.work("throw 3;", 1).due("kept ones alone", 67, x -> x.strict(0)).work("evening;throw 2;", 2);
        some.due("of none", 34, x -> x.strict(0)).due("of one", 1, x -> x.strict(1)).due("of two", 0, x -> x.strict(2));
        some.law("0").work("throw 1;look 0;", 2).due("thought 0 of", 1, x -> x.strict(0)).due("of one", 0, x -> x.strict(1));
        of("alike", apart(4, "0 0 7 0") + "tire 0;").work("look 0;look 1;look 2;", 3).due("0", 8, x -> x.strict(0))
                .due("1", 8, x -> x.strict(1)).due("2", 8, x -> x.strict(2)).due("3", 0, x -> x.strict(3));
        of("all sixteen", "picture 0 0 40 0 0;".repeat(16) + "tire 0;").work("look 0;look 1;look 2;look 3;look 4;look 5;"
                + "look 6;look 7;look 8;look 9;look 10;look 11;look 12;look 13;look 14;look 15;", 16)
                .due("15", 41, x -> x.strict(15)).due("16", 0, x -> x.strict(16));
        Case most = of("the most that is thought", apart(2, "0 0 0 0"));
        most.law("97").work("look 0;", 1).due("97", 98, x -> x.strict(0)).law("98").work("look 0;", 1);
        most.due("98", 99, x -> x.strict(0)).law("99").work("look 1;", 1).due("99", 100, x -> x.strict(0));
        most.due("98 and 99", 99, x -> x.strict(1)).due("of both", 0, x -> x.strict(2));
    }

    /** Of one that is kept, thrown, gone: what would be thought now, by all that a law may name. */
    private void thoughts() {
        String two = "picture 30 9 40 63 9;picture 0 0 0 0 9;tire 9;bin 1;";
        String[] names = {"worth", "sharp", "people", "day", "tired", "looks", "same", "star"};
        long[] first = {40, 9, 6, 30, 18, 2, 2, 1};
        long[] behind = {40, 9, 6, 30, 0, 2, 2, 0};
        Case some = of("thoughts", two).work("look 1;look 1;star 0;", 3);
        for (int i = 0; i < names.length; i++) {
            long want = first[i];
            some.law(names[i]).due(names[i], want, x -> x.thought(0));
        }
        some.work("throw 0;", 1).law("star*50+tired").due("thrown", 18, x -> x.thought(0)).work("evening;", 1);
        for (int i = 0; i < names.length; i++) {
            long want = behind[i];
            some.law(names[i]).due(names[i] + ", gone", want, x -> x.thought(0));
        }
        some.picture(0, 7, -1).picture(0, 8, 0).told(1, 2);
        int[] most = {40, 9, 6, 30, 99, 999, 999, 1};
        for (int i = 0; i < names.length; i++) {
            int[] facts = new int[8];
            facts[i] = most[i];
            String scaled = names[i] + "/" + (most[i] > 99 ? 11 : 1);
            some.law(scaled).due(scaled, most[i] > 99 ? 90 : most[i], x -> x.would(facts[0], facts[1], facts[2], facts[3],
                    facts[4], facts[5], facts[6], facts[7]));
        }
    }

    private void wrapping() {
        // 999 times itself four and five times wraps; divided then, so that it comes out between 0 and 99.
        for (String law : List.of("looks*looks*looks*looks/999/999/50+50", "50-looks*looks*looks*looks/999/999/50",
                "looks*looks*looks*looks*looks/999/999/50+50", "looks*looks*looks*looks", "0-looks*looks*looks*looks",
                "(999*999*999*2+999*999*153+looks*same)/999/999/60+50", "looks*looks*looks/(0-7)/999/999*0+20",
                "(0-999*999*999*2-999*999*153-looks*same)/999/999/60+50", "200-looks*looks*looks/7/999/999",
                "(0-9)/2+7", "9/(0-2)+7", "(0-9)/(0-2)+7", "looks/(same-same)+4", "0/0+3", "5-7/0",
                "256*256*256*128/(0-1)/(256*256*256)+150", "(256*256*256*128-1+2+256*256*256*127)/256/256/256+50",
                "most[256*256*256*128,0-1]+9", "least[256*256*256*128,5]/256/256/256+140", "most[0-5,0-3]+10",
                "least[0-5,0-3]+10", "100-1", "99+1", "0-0", "1-2")) {
            of("wraps", "").law(law).due(law, wrapped(law, 999, 998), x -> x.would(0, 0, 0, 0, 0, 999, 998, 0));
        }
    }

    /** The law worked out apart from the class, in 64 bits that are cut to 32 at each sign. */
    private static long wrapped(String law, long looks, long same) {
        Reckoner r = new Reckoner(law.replace("looks", "" + looks).replace("same", "" + same));
        return Math.max(0, Math.min(99, r.sum()));
    }

    private static final class Reckoner {
        private final String text;
        private int at;

        Reckoner(String text) {
            this.text = text;
        }

        private boolean takes(String sign) {
            boolean is = text.startsWith(sign, at);
            at += is ? sign.length() : 0;
            return is;
        }

        private static long cut(long value) {
            long low = value & 0xffffffffL;
            return low >= 1L << 31 ? low - (1L << 32) : low;
        }

        long sum() {
            long value = product();
            while (true) {
                if (takes("+")) {
                    value = cut(value + product());
                } else if (takes("-")) {
                    value = cut(value - product());
                } else {
                    return value;
                }
            }
        }

        private long product() {
            long value = unit();
            while (true) {
                if (takes("*")) {
                    value = cut(value * unit());
                } else if (takes("/")) {
                    long by = unit();
                    value = by == 0 ? 0 : cut(value / by);
                } else {
                    return value;
                }
            }
        }

        private long unit() {
            boolean isLeast = text.startsWith("least", at);
            if (takes("least[") || takes("most[")) {
                long a = sum();
                takes(",");
                long b = sum();
                takes("]");
                return isLeast ? Math.min(a, b) : Math.max(a, b);
            }
            if (takes("(")) {
                long value = sum();
                takes(")");
                return value;
            }
            long value = 0;
            while (at < text.length() && Character.isDigit(text.charAt(at))) {
                value = value * 10 + text.charAt(at) - '0';
                at++;
            }
            return value;
        }
    }
}
