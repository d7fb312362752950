import java.util.List;
import java.util.function.ToIntFunction;

/**
 * The texts: of every number, word, count, length and depth the last that may stand there, and the first that may
 * not. A text with a fault is told at its place, empties the tape, and leaves all else as it was.
 */
public final class TextEdgesTest {
    private static final int SIGN = 1;
    private static final int NUMBER = 2;
    private static final int MANY = 3;

    private final Check check = new Check();
    private final String untouched = Whole.seen(Whole.worked());

    public static void main(String[] args) {
        TextEdgesTest test = new TextEdgesTest();
        test.numbersOfSummers();
        test.numbersOfClauses();
        test.numbersOfLaws();
        test.numbersOfWorks();
        test.picturesThatThereAre();
        test.numbersOfClocks();
        test.whatIsThereWithout();
        test.theLastCounts();
        test.wordsOfSummers();
        test.wordsOfLaws();
        test.wordsOfWorks();
        test.blanks();
        test.countsOfSummers();
        test.countsOfLines();
        test.openInLaws();
        test.openInWorks();
        test.lengths();
        test.endsTooEarly();
        test.firstFromTheLeft();
        test.leastOfOne();
        test.check.end("TextEdgesTest");
    }

    // ---- one text ----

    private static int read(SummerPictures x, String kind, String text) {
        return switch (kind) {
            case "summer" -> Check.summer(x, text);
            case "law" -> Check.law(x, text);
            case "work" -> Check.work(x, text);
            default -> Check.clocks(x, text);
        };
    }

    private SummerPictures reads(String kind, String text, int answer) {
        SummerPictures x = Whole.worked();
        check.due(kind + " '" + text + "'", answer, () -> read(x, kind, text));
        check.due(kind + " '" + text + "' has no fault", -1, () -> x.fault());
        check.due(kind + " '" + text + "' is gone from the tape", 0, () -> x.kept(1));
        return x;
    }

    private void fails(String kind, String text, int fault, int place) {
        SummerPictures x = Whole.worked();
        check.due(kind + " '" + text + "'", fault - 10, () -> read(x, kind, text));
        check.due(kind + " '" + text + "': the place", place, () -> x.fault());
        check.due(kind + " '" + text + "': the tape is empty", 0, () -> x.kept(1));
        check.due(kind + " '" + text + "': no call was refused", 0, () -> x.status(0) + x.status(1));
        check.due(kind + " '" + text + "': all stays", 1, () -> Whole.seen(x).equals(untouched) ? 1 : 0);
    }

    private void readsTo(String kind, String text, int answer, long want, ToIntFunction<SummerPictures> seen) {
        SummerPictures x = reads(kind, text, answer);
        check.due(kind + " '" + text + "': what it says", want, () -> seen.applyAsInt(x));
    }

    /** What stands in a number's place: both ends, the first beyond them, more digits than any number holds. */
    private void number(String kind, String before, String behind, int least, int most, int answer,
            ToIntFunction<SummerPictures> seen) {
        for (int n : new int[] {least, most}) {
            readsTo(kind, before + n + behind, answer, n, seen);
            readsTo(kind, before + "000000000000" + n + behind, answer, n, seen);
        }
        numberNot(kind, before, behind, most);
        endsEarly(kind, before);
        if (least > 0) {
            fails(kind, before + (least - 1) + behind, NUMBER, before.length());
            fails(kind, before + "00" + (least - 1) + behind, NUMBER, before.length());
        }
    }

    private void numberNot(String kind, String before, String behind, int most) {
        int place = before.length();
        fails(kind, before + (most + 1) + behind, NUMBER, place);
        fails(kind, before + "000000000000" + (most + 1) + behind, NUMBER, place);
        // Two to the 31, 32, 64, to each what is allowed: whoever lets numbers wrap takes these.
        for (String wraps : List.of("2147483648", "4294967296", "4294967297", "18446744073709551616",
                "18446744073709551617", "4294967296000000000000000000000001", "1" + "0".repeat(40))) {
            fails(kind, before + wraps + (behind.length() + before.length() > 100 ? "" : behind), NUMBER, place);
        }
        for (String none : List.of("x", "-1", "+1", ";;", ",", "" + (char) 0, "" + (char) 0xb1, "" + (char) 0x2f,
                "" + (char) 0x3a)) {
            fails(kind, before + none + behind, SIGN, place);
        }
    }

    // ---- numbers ----

    private void numbersOfSummers() {
        number("summer", "picture ", " 9 40 63 9;", 0, 30, 1, x -> x.picture(0, 0));
        number("summer", "picture 30 ", " 40 63 9;", 0, 9, 1, x -> x.picture(0, 1));
        number("summer", "picture 30 9 ", " 63 9;", 0, 40, 1, x -> x.picture(0, 2));
        number("summer", "picture 30 9 40 ", " 9;", 0, 63, 1, x -> x.picture(0, 3));
        number("summer", "picture 30 9 40 63 ", ";", 0, 9, 1, x -> x.picture(0, 4));
        fails("summer", "picture 30 9 40 63 9 1;", SIGN, 21);
        fails("summer", "picture 30 9 40 63;", SIGN, 18);
        fails("summer", "picture;", SIGN, 7);
    }

    private void numbersOfClauses() {
        number("summer", "wish ", " 8;", 0, 5, 0, TextEdgesTest::firstWished);
        number("summer", "wish 5 ", ";", 0, 8, 0, x -> x.person(5, 0));
        number("summer", "wish 0 ", ";", 0, 8, 0, x -> x.person(0, 0));
        String apart = "picture 0 0 0 0 0;picture 0 0 0 0 1;picture 0 0 0 0 2;picture 0 0 0 0 3;"
                + "picture 0 0 0 0 4;picture 0 0 0 0 5;picture 0 0 0 0 6;picture 0 0 0 0 7;";
        number("summer", apart + "size ", ";", 0, 8, 8, TextEdgesTest::bookSize);
        number("summer", "picture 0 0 0 0 0;tire ", ";", 0, 9, 1, TextEdgesTest::tiredByOne);
        number("summer", "picture 0 0 0 0 0;bin ", ";", 1, 30, 1, TextEdgesTest::binnedAtOnce);
        for (String one : List.of("size 1 2;", "tire 1 2;", "bin 1  2;")) {
            fails("summer", one, SIGN, one.length() - 2);
        }
        fails("summer", "wish 1 2 3;", SIGN, 9);
        fails("summer", "wish 1;", SIGN, 6);
    }

    private static int firstWished(SummerPictures x) {
        int person = 0;
        while (person < 5 && x.person(person, 0) == 0) {
            person++;
        }
        return x.person(person, 0) == 8 ? person : -1;
    }

    private static int bookSize(SummerPictures x) {
        int many = 0;
        while (many < 8 && !x.isBook((1 << many) - 1)) {
            many++;
        }
        return x.isBook((1 << many) - 1) ? many : -1;
    }

    private static int tiredByOne(SummerPictures x) {
        Check.work(x, "look 0;");
        return x.told(2);
    }

    private static int binnedAtOnce(SummerPictures x) {
        Check.work(x, "throw 0;");
        return x.binned(0);
    }

    private void numbersOfLaws() {
        readsTo("law", "0", 1, 0, x -> x.thought(1));
        readsTo("law", "1", 1, 1, x -> x.thought(1));
        readsTo("law", "999", 1, 99, x -> x.thought(1));
        readsTo("law", "999-998", 1, 1, x -> x.thought(1));
        readsTo("law", "999/100*10", 1, 90, x -> x.thought(1));
        readsTo("law", "0000000000000000000000000000000000000999-900", 1, 99, x -> x.thought(1));
        numberNot("law", "", "", 999);
        numberNot("law", "1 + ", " * 2", 999);
        numberNot("law", "least[1,", "]", 999);
    }

    private void numbersOfWorks() {
        for (int n : new int[] {0, 1, 19, 20}) {
            readsTo("work", "again " + n + "[look 1;];", n, 3 + n, x -> x.picture(1, 8) + 2);
            readsTo("work", "again 00" + n + " [look 1;rest;];", 2 * n, 0, x -> x.told(9));
        }
        numberNot("work", "again ", "[look 1;];", 20);
        numberNot("work", "again 1[again 1[again ", "[];];];", 20);
        for (String word : List.of("look ", "star ", "throw ", "save ")) {
            numberNot("work", word, ";", 4);
            numberNot("work", "rest;again 2[" + word, ";];", 4);
            readsTo("work", word + "0;", word.equals("star ") || word.equals("throw ") ? 0 : 1, 4, x -> x.kept(2));
            readsTo("work", word + "4;", word.equals("save ") ? 0 : 1, 4, x -> x.kept(2));
        }
    }

    /** P: a PICTURE. With none no number is one; with sixteen 15 is the last. */
    private void picturesThatThereAre() {
        for (int many : new int[] {0, 1, 2, 15, 16}) {
            for (String word : List.of("look", "star", "throw", "save")) {
                SummerPictures x = new SummerPictures();
                Check.summer(x, "picture 0 0 0 0 0;".repeat(many));
                check.due(word + " of one too many of " + many, -8, () -> Check.work(x, word + " " + many + ";"));
                check.due(word + " of one too many of " + many + ": place", word.length() + 1, () -> x.fault());
                check.due(word + " of one too many of " + many + ": no work", 0, () -> x.kept(2));
                if (many > 0) {
                    String last = word + " " + (many - 1) + ";";
                    check.due(last + " of " + many, word.equals("save") ? 0 : 1, () -> Check.work(x, last));
                    check.due(last + " of " + many + " is work", 1, () -> x.kept(2));
                }
            }
        }
    }

    private void numbersOfClocks() {
        readsTo("clocks", "0 0;", 1, -1, x -> x.off(0, 1));
        readsTo("clocks", "999 999;", 1, 1, x -> x.off(0, 2));
        readsTo("clocks", "999 900;", 1, -99, x -> x.off(0, 3));
        readsTo("clocks", "900 999;", 1, 98, x -> x.off(0, 1));
        readsTo("clocks", "000999 00000000999;", 1, 3, x -> x.off(0, 0));
        numberNot("clocks", "1 2;", " 5;", 999);
        numberNot("clocks", "1 ", ";", 999);
        fails("clocks", "1 2 3;", SIGN, 4);
        fails("clocks", "1;", SIGN, 1);
        fails("clocks", ";", SIGN, 0);
    }

    // ---- what is there without a clause ----

    private void whatIsThereWithout() {
        String four = "picture 0 0 9 0 0;picture 0 0 9 0 1;picture 0 0 9 0 2;picture 0 0 9 0 3;";
        readsTo("summer", four + "picture 0 0 9 0 4;", 5, 4, TextEdgesTest::bookSize);
        readsTo("summer", four, 4, 1, TextEdgesTest::tiredByOne);
        readsTo("summer", four, 4, 3, TextEdgesTest::binnedAtOnce);
        for (int person = 0; person < 6; person++) {
            int p = person;
            readsTo("summer", four, 4, 0, x -> x.person(p, 0));
        }
        readsTo("summer", four, 4, 9, x -> x.thought(3));
        readsTo("summer", four, 4, 8, x -> tiredByOne(x) * x.thought(3));
        readsTo("summer", four, 4, 0, x -> x.told(8));
        readsTo("summer", "", 0, 0, x -> x.told(0));
        readsTo("summer", "   ", 0, 0, x -> x.told(0));
        readsTo("work", "", 0, 4, x -> x.kept(2));
        readsTo("work", "   ", 0, 4, x -> x.kept(2));
        readsTo("clocks", "", 0, 0, x -> x.told(8));
        readsTo("clocks", "  ", 0, 199, x -> x.off(0, 0));
        fails("law", "", SIGN, 0);
        fails("law", "  ", SIGN, 2);
    }

    private void theLastCounts() {
        String one = "picture 0 0 9 0 0;picture 0 0 9 0 1;";
        readsTo("summer", "size 2;" + one + "size 8;size 1;", 2, 1, TextEdgesTest::bookSize);
        readsTo("summer", "size 1;" + one + "size 0;", 2, 0, TextEdgesTest::bookSize);
        readsTo("summer", "tire 0;" + one + "tire 9;tire 7;", 2, 7, TextEdgesTest::tiredByOne);
        readsTo("summer", one + "tire 9;tire 0;", 2, 0, TextEdgesTest::tiredByOne);
        readsTo("summer", "bin 30;" + one + "bin 1;bin 2;", 2, 2, TextEdgesTest::binnedAtOnce);
        readsTo("summer", "wish 3 8;wish 3 2;wish 4 7;" + one, 2, 2, x -> x.person(3, 0));
        readsTo("summer", "wish 3 2;wish 3 0;wish 4 7;" + one, 2, 0, x -> x.person(3, 0));
        readsTo("summer", "wish 3 2;wish 4 1;wish 4 7;" + one, 2, 2, x -> x.person(3, 0));
    }

    // ---- words ----

    /** A word is all the small letters that stand there: one less or more is another word, at its first byte. */
    private void wordsOfSummers() {
        for (String said : List.of("picture 1 2 3 4 5;", "wish 1 2;", "size 3;", "tire 3;", "bin 3;")) {
            wordChanged("summer", "bin 1; ", said);
        }
        for (String other : List.of("look 1;", "rest;", "worth;", "least", "1;", ";", "[", "z", "{", "`")) {
            fails("summer", other, SIGN, 0);
        }
    }

    private void wordsOfLaws() {
        for (String word : List.of("worth", "sharp", "people", "day", "tired", "looks", "same", "star", "least[1,2]",
                "most[1,2]")) {
            wordChanged("law", "1 + ", word);
        }
        for (String other : List.of("look", "picture", "rest", "a", "z", "`", "{", ")", "[", "]", ",", "*", "/", "+")) {
            fails("law", other, SIGN, 0);
            fails("law", "2*" + other, SIGN, 2);
        }
        for (String behind : List.of("worth", "1", "(1)", "[", "]", ")", ",", ";", "?", "=")) {
            fails("law", "sharp " + behind, SIGN, 6);
            fails("law", "(sharp) " + behind, SIGN, 8);
        }
    }

    private void wordsOfWorks() {
        for (String said : List.of("look 1;", "star 1;", "throw 1;", "save 1;", "rest;", "evening;", "again 2[];")) {
            wordChanged("work", "rest; ", said);
            wordChanged("work", "again 1[", said + "];");
        }
        for (String other : List.of("picture 1;", "looks;", "wish 1 2;", "1;", ";", "[", "]", "a;", "z;", "`", "{")) {
            fails("work", other, SIGN, 0);
        }
        fails("work", "rest 1;", SIGN, 5);
        fails("work", "evening 1;", SIGN, 8);
        fails("work", "look 1 1;", SIGN, 7);
        fails("work", "again 1(rest;);", SIGN, 7);
        fails("work", "again 1[rest;);", SIGN, 13);
    }

    private void wordChanged(String kind, String before, String said) {
        int place = before.length();
        int letters = 0;
        while (letters < said.length() && Character.isLowerCase(said.charAt(letters))) {
            letters++;
        }
        String behind = said.substring(letters);
        String word = said.substring(0, letters);
        SummerPictures x = Whole.worked();
        check.due(kind + " '" + before + said + "' can be read", 1, () -> read(x, kind, before + said) >= 0 ? 1 : 0);
        fails(kind, before + word + "x" + behind, SIGN, place);
        fails(kind, before + word + word + behind, SIGN, place);
        fails(kind, before + word.substring(0, letters - 1) + behind, SIGN, place);
        fails(kind, before + word.substring(1) + behind, SIGN, place);
        for (int i = 0; i < letters; i++) {
            fails(kind, before + word.substring(0, i) + "q" + word.substring(i + 1) + behind, SIGN, place);
        }
        fails(kind, before + Character.toUpperCase(word.charAt(0)) + word.substring(1) + behind, SIGN, place);
        fails(kind, before + word.substring(0, 1) + " " + word.substring(1) + behind, SIGN, place);
    }

    // ---- blanks ----

    /** Blanks may stand ahead of every piece and at the end; no other sign is one. */
    private void blanks() {
        blanksIn("summer", 2, "picture", "30", " 9", " 40", " 63", " 9", ";", "picture", "0", " 0", " 0", " 0", " 0",
                ";", "wish", "0", " 1", ";", "size", "1", ";", "tire", "2", ";", "bin", "4", ";");
        blanksIn("law", 1, "most", "[", "least", "[", "worth", ",", "60", "]", "-", "tired", ",", "(", "sharp", "+",
                "3", ")", "*", "day", "/", "2", "]");
        blanksIn("work", 5, "look", "1", ";", "again", "2", "[", "again", "1", "[", "evening", ";", "]", ";", "look",
                "1", ";", "]", ";");
        blanksIn("clocks", 2, "10", " 20", ";", "30", " 40", ";");
    }

    private void blanksIn(String kind, int answer, String... pieces) {
        String want = Whole.seen(reads(kind, String.join("", pieces), answer));
        for (int i = 0; i <= pieces.length; i++) {
            for (String blanks : List.of(" ", "     ")) {
                String text = joined(pieces, i, blanks);
                SummerPictures x = reads(kind, text, answer);
                check.due(kind + " '" + text + "' says the same", 1, () -> Whole.seen(x).equals(want) ? 1 : 0);
            }
            String before = String.join("", List.of(pieces).subList(0, i));
            for (char odd : new char[] {9, 10, 13, 0, 31, 160, 128 + 32, 95, 255}) {
                fails(kind, joined(pieces, i, "" + odd), SIGN, before.length());
            }
        }
    }

    private static String joined(String[] pieces, int place, String between) {
        StringBuilder s = new StringBuilder();
        for (int i = 0; i < pieces.length; i++) {
            s.append(i == place ? between : "").append(pieces[i]);
        }
        return s.append(place == pieces.length ? between : "").toString();
    }

    // ---- as many as there may be ----

    private void countsOfSummers() {
        reads("summer", "bin 1;".repeat(59), 0);
        reads("summer", "bin 1;".repeat(60), 0);
        reads("summer", "bin 1;".repeat(60) + "   ", 0);
        for (String more : List.of("bin 1;", "size 1;", "tire 1;", "wish 0 0;", "picture 0 0 0 0 0;", "bin", "bin 99;")) {
            fails("summer", "bin 1;".repeat(60) + more, MANY, 360);
            fails("summer", "bin 1;".repeat(60) + "  " + more, MANY, 362);
        }
        String picture = "picture 9 9 9 9 9;";
        reads("summer", picture.repeat(15), 15);
        reads("summer", picture.repeat(16), 16);
        reads("summer", picture.repeat(16) + "size 2;wish 1 1;", 16);
        fails("summer", picture.repeat(17), MANY, 288);
        fails("summer", picture.repeat(16) + "  picture", MANY, 290);
        fails("summer", picture.repeat(16) + "bin 1; picture 99", MANY, 295);
        reads("summer", "bin 1;".repeat(44) + picture.repeat(16), 16);
        fails("summer", "bin 1;".repeat(44) + picture.repeat(16) + "bin 1;", MANY, 552);
        fails("summer", "bin 1;".repeat(44) + picture.repeat(16) + picture, MANY, 552);
        fails("summer", "bin 1;".repeat(43) + picture.repeat(16) + picture, MANY, 546);
    }

    private void countsOfLines() {
        reads("clocks", "1 2;".repeat(9), 9);
        readsTo("clocks", "1 2;".repeat(10), 10, 10, x -> x.told(8));
        reads("clocks", "1 2;".repeat(10) + "    ", 10);
        fails("clocks", "1 2;".repeat(11), MANY, 40);
        fails("clocks", "1 2;".repeat(10) + "  3", MANY, 42);
        fails("clocks", "1 2;".repeat(10) + "999 1000;", MANY, 40);
        fails("clocks", "1 2;".repeat(10) + "3?", MANY, 40);
    }

    // ---- open at one time ----

    private void openInLaws() {
        String[] opens = {"(", "least[", "most[", "least[1,", "most[1,"};
        String[] closes = {")", ",1]", ",1]", "]", "]"};
        for (int i = 0; i < opens.length; i++) {
            String six = opens[i].repeat(6) + "1" + closes[i].repeat(6);
            reads("law", six, 1);
            reads("law", six + "+" + six, 1);
            for (String seventh : List.of("(", "least", "most", "least[1,1]", "(1)", "most[")) {
                fails("law", opens[i].repeat(6) + seventh, MANY, 6 * opens[i].length());
                fails("law", opens[i].repeat(6) + "2*" + seventh, MANY, 6 * opens[i].length() + 2);
            }
            String five = opens[i].repeat(5);
            reads("law", five + "(1)+(2)-least[1,2]" + closes[i].repeat(5), 1);
            fails("law", five + "(1)+((2))", MANY, five.length() + 5);
            fails("law", five + "least[1,(2)]", MANY, five.length() + 8);
            fails("law", five + "most[(2),1]", MANY, five.length() + 5);
        }
        readsTo("law", "((((((worth))))))", 1, 40, x -> x.thought(1));
        readsTo("law", "least[most[least[most[least[most[7,8],9],3],6],5],99]", 1, 6, x -> x.thought(1));
    }

    private void openInWorks() {
        String six = "again 1[".repeat(6);
        readsTo("work", six + "look 1;" + "];".repeat(6), 1, 2, x -> x.picture(1, 8));
        reads("work", six + "];];again 1[again 1[];];" + "];".repeat(4), 0);
        fails("work", six + "again 1[" + "];".repeat(7), MANY, 48);
        fails("work", six + "look 1;again", MANY, 55);
        fails("work", six + "];again 99;", NUMBER, 56);
        fails("work", six + "];again 1[ again", MANY, 59);
    }

    // ---- lengths ----

    /** A text may be so long; its last byte counts, and the first behind it does not. */
    private void lengths() {
        readsTo("summer", " ".repeat(593) + "size 0;", 0, 0, TextEdgesTest::bookSize);
        reads("summer", " ".repeat(582) + "picture 1 2 3 4 5;", 1);
        fails("summer", " ".repeat(583) + "picture 1 2 3 4 5", SIGN, 600);
        fails("summer", " ".repeat(599) + "?", SIGN, 599);
        readsTo("law", " ".repeat(148) + "12", 1, 12, x -> x.thought(1));
        readsTo("law", " ".repeat(145) + "worth", 1, 40, x -> x.thought(1));
        fails("law", " ".repeat(149) + "-", SIGN, 149);
        fails("law", " ".repeat(148) + "1+", SIGN, 150);
        reads("work", " ".repeat(145) + "rest;", 1);
        fails("work", " ".repeat(146) + "rest", SIGN, 150);
        // Tired was 9: it is 4, 2, 1 and 0 then.
        readsTo("work", "rest;".repeat(30), 4, 26, x -> x.told(9));
        readsTo("clocks", " ".repeat(96) + "7 9;", 1, 1, x -> x.off(0, 1));
        fails("clocks", " ".repeat(97) + "7 9", SIGN, 100);
        cutBefore("summer", "bin 1;bin 1;", 6, 0, -1);
        cutBefore("summer", "bin 1;bin 1;", 11, -9, 11);
        cutBefore("summer", "bin 30;", 5, -9, 5);
        cutBefore("law", "1000", 3, 1, -1);
        cutBefore("law", "worthy", 5, 1, -1);
        cutBefore("law", "1+1", 2, -9, 2);
        cutBefore("work", "rest;?", 5, 1, -1);
        cutBefore("work", "rest;", 4, -9, 4);
        cutBefore("clocks", "7 9;?", 4, 1, -1);
        cutBefore("clocks", "7 9;8 1000;", 9, -9, 9);
    }

    /** Only the first n bytes are the text; those behind are gone from the tape as well. */
    private void cutBefore(String kind, String tape, int n, int answer, int place) {
        SummerPictures x = Whole.worked();
        Check.feed(x, tape);
        check.due(kind + " of " + n + " bytes of '" + tape + "'", answer, () -> switch (kind) {
            case "summer" -> x.summer(n);
            case "law" -> x.law(n);
            case "work" -> x.work(n);
            default -> x.clocks(n);
        });
        check.due(kind + " of " + n + " bytes of '" + tape + "': fault", place, () -> x.fault());
        check.due(kind + " of " + n + " bytes of '" + tape + "': tape", 0, () -> x.kept(1));
    }

    // ---- which fault ----

    private void endsTooEarly() {
        for (String text : List.of("picture", "picture 1", "picture 1 2", "picture 1 2 3", "picture 1 2 3 4",
                "picture 1 2 3 4 5", "wish", "wish 1", "wish 1 2", "size", "size 1", "tire", "tire 1", "bin", "bin 1")) {
            endsEarly("summer", text);
            endsEarly("summer", "bin 1;" + text);
        }
        for (String text : List.of("(", "(1", "(1+", "1*", "1/", "1-", "least", "least[", "least[1", "least[1,",
                "least[1,2", "most", "most[", "most[1", "most[1,", "most[1,2", "(most[1,2]")) {
            endsEarly("law", text);
            endsEarly("law", "1+" + text);
        }
        for (String text : List.of("look", "look 1", "star", "star 1", "throw", "throw 1", "save", "save 1", "rest",
                "evening", "again", "again 1", "again 1[", "again 1[rest", "again 1[rest;", "again 1[rest;]")) {
            endsEarly("work", text);
            endsEarly("work", "rest;again 2[" + text);
        }
        for (String text : List.of("1", "1 2", "1 2;3", "1 2;3 4")) {
            endsEarly("clocks", text);
        }
    }

    private void endsEarly(String kind, String text) {
        fails(kind, text, SIGN, text.length());
        fails(kind, text + "   ", SIGN, text.length() + 3);
    }

    private void firstFromTheLeft() {
        fails("summer", "bin 31;biin 1;", NUMBER, 4);
        fails("summer", "biin 1;bin 31;", SIGN, 0);
        fails("summer", "picture 1 2 99 99 ?;", NUMBER, 12);
        fails("summer", "picture 1 2 ? 99 99;", SIGN, 12);
        fails("summer", "picture 9 9 9 9 9;".repeat(16) + "bin 0;picture", NUMBER, 292);
        fails("summer", "bin 1;".repeat(59) + "bin 0;bin 1;", NUMBER, 358);
        fails("summer", "bin 1;".repeat(59) + "bin 1 bin 1;", SIGN, 360);
        fails("law", "1000+?", NUMBER, 0);
        fails("law", "?+1000", SIGN, 0);
        fails("law", "((((((1000+(1", NUMBER, 6);
        fails("law", "(((((((1000", MANY, 6);
        fails("law", "1000)", NUMBER, 0);
        fails("law", "1) 1000", SIGN, 1);
        fails("work", "look 5;lok 1;", NUMBER, 5);
        fails("work", "lok 1;look 5;", SIGN, 0);
        fails("work", "again 21[look 5;", NUMBER, 6);
        fails("work", "again 1[".repeat(5) + "again 21[again", NUMBER, 46);
        fails("clocks", "1000 ?", NUMBER, 0);
        fails("clocks", "? 1000", SIGN, 0);
        fails("clocks", "1 1000;".repeat(11), NUMBER, 2);
    }

    /** Where two faults have one place, the least of them is the one. */
    private void leastOfOne() {
        fails("summer", "bin 1;".repeat(60) + "?", SIGN, 360);
        fails("summer", "bin 1;".repeat(60) + ";", SIGN, 360);
        fails("summer", "bin 1;".repeat(60) + "bins 1;", SIGN, 360);
        fails("summer", "picture 9 9 9 9 9;".repeat(16) + "picturex", SIGN, 288);
        fails("clocks", "1 2;".repeat(10) + "?", SIGN, 40);
        fails("clocks", "1 2;".repeat(10) + "1000 1;", NUMBER, 40);
        fails("law", "((((((leastt", SIGN, 6);
        fails("work", "again 1[".repeat(6) + "againn", SIGN, 48);
    }
}
