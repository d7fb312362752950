import java.util.function.LongSupplier;

/** Promise by promise: ordinary inputs, the edges that the document names, wrong inputs and what is counted then. */
public final class PromisesTest {
    private static final long NO_ELEMENT = Check.NO_ELEMENT;
    private static final long BAD = Check.BAD_ARGUMENT;

    /** Eight pictures, of scenes 1 1 2 3 3 4 5 5; 0 and 1 are doubles, and so are 3 and 4. */
    private static final String SUMMER = "picture 0 9 20 3 1;picture 0 5 12 3 1;picture 1 7 30 4 2;picture 2 3 8 7 3;"
            + "picture 2 9 15 7 3;picture 3 1 40 0 4;picture 3 6 25 1 5;picture 30 6 40 33 5;"
            + "wish 0 1;wish 2 1;size 3;tire 5;bin 2;";

    private final Check check = new Check();
    private SummerPictures x;
    private String promise = "";

    public static void main(String[] args) {
        new PromisesTest().runAll();
    }

    private void runAll() {
        promises1To8();
        promises9To20();
        promises21To30();
        promises31To43();
        check.end("PromisesTest");
    }

    private void promises1To8() {
        newObject();
        feed();
        summer();
        summerStartsAnew();
        law();
        work();
        workAtItsLimits();
        clocks();
        fault();
        undo();
    }

    private void promises9To20() {
        told();
        picture();
        person();
        thought();
        would();
        favourite();
        books();
        cost();
        swap();
        isBook();
        heaps();
        doubles();
    }

    private void promises21To30() {
        line();
        leave();
        knock();
        often();
        order();
        ordered();
        off();
        bestOff();
        eyes();
        need();
    }

    private void promises31To43() {
        day();
        together();
        missing();
        strict();
        binned();
        scene();
        friend();
        goesOn();
        span();
        image();
        restore();
        status();
        kept();
    }

    private void start(String name, String summer) {
        promise = name;
        x = new SummerPictures();
        Check.summer(x, summer);
    }

    private void due(String call, long want, LongSupplier answer) {
        check.due(promise + ": " + call, want, answer);
    }

    private void bad(String call, LongSupplier answer) {
        int before = x.status(1);
        int others = x.status(0);
        due(call, BAD, answer);
        due(call + " is counted", before + 1, () -> x.status(1));
        due(call + " is not counted twice", others, () -> x.status(0));
    }

    private void unknown(String call, LongSupplier answer) {
        int before = x.status(0);
        int others = x.status(1);
        due(call, NO_ELEMENT, answer);
        due(call + " is counted", before + 1, () -> x.status(0));
        due(call + " is not counted twice", others, () -> x.status(1));
    }

    private long look(String steps) {
        return Check.work(x, steps);
    }

    // ---- 1 to 8 ----

    private void newObject() {
        promise = "1";
        x = new SummerPictures();
        for (int what = 0; what <= 10; what++) {
            int w = what;
            due("told " + w, 0, () -> x.told(w));
        }
        due("kept 0", 0, () -> x.kept(0));
        due("kept 1", 0, () -> x.kept(1));
        due("kept 2", 0, () -> x.kept(2));
        due("fault", -1, () -> x.fault());
        due("status 0", 0, () -> x.status(0));
        due("status 1", 0, () -> x.status(1));
        due("books: size is 4", 0, () -> x.books(0));
        due("isBook of none: size is 4", 0, () -> x.isBook(0) ? 1 : 0);
        due("the law is worth - tired", 17, () -> x.would(20, 9, 6, 30, 3, 9, 9, 1));
        due("off fits all", 199, () -> x.off(0, 0));
        due("NONE", -1, () -> SummerPictures.NONE);
    }

    private void feed() {
        promise = "2";
        x = new SummerPictures();
        int size = ('s' << 24) + ('i' << 16) + ('z' << 8) + 'e';
        int zero = (' ' << 24) + ('0' << 16) + (';' << 8) + ' ';
        due("feed", 20, () -> x.feed(size, zero, size, zero, -1));
        due("the highest byte is first", 0, () -> x.summer(16));
        due("the size was read", 1, () -> x.books(0));
        for (int i = 1; i <= 30; i++) {
            int many = 20 * i;
            due("feed " + i, many, () -> x.feed(0x20202020, 0x20202020, 0x20202020, 0x20202020, 0x20202020));
        }
        due("feed beyond 600", -1, () -> x.feed(1, 2, 3, 4, 5));
        due("it did nothing", 600, () -> x.kept(1));
        due("600 blanks", 0, () -> x.summer(600));
        due("feed again", 20, () -> x.feed(-1, -1, -1, -1, -1));
        due("a byte of 255 can't stand there", -9, () -> x.summer(1));
    }

    private void summer() {
        start("3", "");
        due("eight", 8, () -> Check.summer(x, SUMMER));
        due("empty text", 0, () -> x.summer(0));
        due("no pictures any more", 0, () -> x.told(0));
        due("blanks everywhere, no blanks", 1, () -> Check.summer(x, "  picture30 9 40  63 9 ;size0;  "));
        due("the last counts", 3, () -> Check.summer(x, "size 8;picture 0 0 1 1 1;picture 0 0 2 1 2;wish 0 8;wish 0 2;"
                + "tire 1;tire 9;bin 30;bin 1;size 2;picture 0 0 3 0 3;"));
        due("size, wish", 1, () -> x.books(0));
        due("their value", 3, () -> x.books(1));
        look("look 0;throw 1;evening;");
        due("tire, bin", 1, () -> x.told(6));
        due("numbers with many digits", 1, () -> Check.summer(x, "picture 00000000000000000000030 0 0 0 0;"));
        due("sixteen", 16, () -> Check.summer(x, "picture 1 1 1 1 1;".repeat(16)));
        due("sixty clauses", 0, () -> Check.summer(x, "bin 1;".repeat(60)));
        Check.feed(x, "bin 1;");
        bad("n above the tape", () -> x.summer(21));
        bad("n below 0", () -> x.summer(-1));
        bad("n of all", () -> x.summer(Integer.MIN_VALUE));
        due("the tape stays", 20, () -> x.kept(1));
        due("the first n bytes", 0, () -> x.summer(6));
        due("the tape is empty", 0, () -> x.kept(1));
    }

    private void summerStartsAnew() {
        start("3", SUMMER);
        Check.law(x, "7");
        Check.clocks(x, "1 2;");
        look("look 0;star 1;throw 2;throw 2;");
        x.image();
        due("a fault", -9, () -> Check.summer(x, "size 1"));
        due("all stays: pictures", 8, () -> x.told(0));
        due("all stays: looks", 1, () -> x.told(1));
        due("all stays: refused", 1, () -> x.told(9));
        due("all stays: lines", 1, () -> x.told(8));
        due("all stays: law", 7, () -> x.thought(0));
        due("all stays: images", 1, () -> x.kept(0));
        due("all stays: works", 1, () -> x.kept(2));
        due("the tape is empty", 0, () -> x.kept(1));
        due("another", 8, () -> Check.summer(x, SUMMER));
        due("no law", 20, () -> x.thought(0));
        due("no clocks", 0, () -> x.told(8));
        due("no images", 0, () -> x.kept(0));
        due("no image to restore", -1, () -> x.restore());
        due("nothing to undo", -1, () -> x.undo());
        due("no looks", 0, () -> x.told(1));
        due("all kept", 8, () -> x.told(4));
        due("no star", 0, () -> x.told(7));
        due("none refused", 0, () -> x.told(9));
        due("never looked at", -1, () -> x.picture(0, 7));
    }

    private void law() {
        start("4", SUMMER);
        due("law", 1, () -> Check.law(x, "1+2*3-8/3"));
        due("product ahead of sum, / cuts", 5, () -> x.thought(0));
        due("law", 1, () -> Check.law(x, " ( 1 + 2 ) * 3 - 20 / 3 / 2 "));
        due("from the left", 6, () -> x.thought(0));
        due("law", 1, () -> Check.law(x, "9-5-3"));
        due("minus from the left", 1, () -> x.thought(0));
        due("law", 1, () -> Check.law(x, "50+(3-10)/2"));
        due("/ cuts to 0 below 0, too", 47, () -> x.thought(0));
        due("law", 1, () -> Check.law(x, "5+9/(worth-worth)"));
        due("/ by 0 is 0", 5, () -> x.thought(0));
        due("law", 1, () -> Check.law(x, "least[worth,sharp]*10+most[people,day]"));
        due("least, most", 92, () -> x.thought(0));
        due("law", 1, () -> Check.law(x, "999"));
        due("99 at most", 99, () -> x.thought(0));
        due("law", 1, () -> Check.law(x, "0-1"));
        due("0 at least", 0, () -> x.thought(0));
        due("law", 1, () -> Check.law(x, "(256*256*256*128-1)/256/256/256-100"));
        due("2 to the 31, less 1", 27, () -> x.thought(0));
        due("law", 1, () -> Check.law(x, "(256*256*256*128)/256/256/256+200"));
        due("2 to the 31 wraps", 72, () -> x.thought(0));
        due("law", 1, () -> Check.law(x, "(256*256*256*128)/(0-1)/256/256/256+200"));
        due("the least by -1 wraps", 72, () -> x.thought(0));
        due("a fault", -9, () -> Check.law(x, "1+"));
        due("the old one stays", 72, () -> x.thought(0));
        Check.feed(x, " ".repeat(149) + "1 ");
        bad("n above 150", () -> x.law(151));
        due("the tape stays", 160, () -> x.kept(1));
        due("n of 150", 1, () -> x.law(150));
        Check.feed(x, "1");
        bad("n above the tape", () -> x.law(21));
        bad("n below 0", () -> x.law(-1));
        due("n of 1", 1, () -> x.law(1));
        due("empty", -9, () -> x.law(0));
    }

    private void work() {
        start("5", SUMMER);
        due("steps", 3, () -> look("look 0;star 0;star 0;star 1;"));
        due("refused: has a star", 1, () -> x.told(9));
        due("tired", 5, () -> x.told(2));
        due("throw", 2, () -> look("throw 0;look 0;star 0;throw 0;save 1;"));
        due("refused: not kept, not thrown", 3, () -> x.told(9));
        due("its star is gone", 0, () -> x.picture(0, 6));
        due("one that is thrown is thought of", 15, () -> x.picture(0, 7));
        due("save", 1, () -> look("save 0;"));
        due("without its star", 0, () -> x.picture(0, 6));
        due("rest", 5, () -> look("rest;rest;rest;rest;rest;evening;"));
        due("tired is 0", 0, () -> x.told(2));
        due("tired was 10, 5, 2, 1, 0: one refused", 1, () -> x.told(9));
        due("thrown, two evenings", 3, () -> look("throw 5;evening;evening;"));
        due("it is gone", 2, () -> x.picture(5, 5));
        due("nothing can be done with it", 0, () -> look("look 5;star 5;throw 5;save 5;"));
        due("all refused", 4, () -> x.told(9));
        due("saved at the last evening, thrown anew", 5, () -> look("throw 6;evening;save 6;throw 6;evening;"));
        due("it is thrown", 1, () -> x.picture(6, 5));
        due("again", 6, () -> look("again 3[look 1;again 0[rest;];again 1[evening;];];"));
        due("a fault", -9, () -> look("look 0;look"));
        due("none is done", 5, () -> x.told(1));
        due("refused stays", 0, () -> x.told(9));
        due("fed", 160, () -> Check.feed(x, " ".repeat(151)));
        bad("n above 150", () -> x.work(151));
        bad("n below 0", () -> x.work(-1));
        due("the tape stays", 160, () -> x.kept(1));
        due("n of 150", 0, () -> x.work(150));
    }

    private void workAtItsLimits() {
        start("5", "picture 0 0 40 0 0;tire 9;bin 1;");
        due("200 are begun, eleven of them agains", 189, () -> look("again 20[again 20[look 0;];];look 0;"));
        due("tired is 99 at most", 99, () -> x.told(2));
        due("199 are done", 199, () -> look("again 20[evening;evening;evening;evening;evening;"
                + "evening;evening;evening;evening;evening;];"));
        due("evenings", 199, () -> x.told(3));
        due("evenings to 200", 1, () -> look("again 15[evening;];"));
        due("refused from 200 on", 14, () -> x.told(9));
        due("200 evenings", 200, () -> x.told(3));
        due("look", 1, () -> look("look 0;"));
        due("an evening that is refused changes nothing", 0, () -> look("evening;"));
        due("tired stays", 9, () -> x.told(2));
        due("refused ones are begun, too", 0, () -> look("again 20[save 0;save 0;save 0;save 0;save 0;save 0;save 0;"
                + "save 0;save 0;save 0;];look 0;"));
        due("of 200 the again is one", 199, () -> x.told(9));
        for (int i = 7; i <= 16; i++) {
            due("work " + i, 0, () -> x.work(0));
        }
        due("sixteen", 16, () -> x.kept(2));
        Check.summer(x, "?");
        due("fed", 20, () -> Check.feed(x, "?"));
        due("a seventeenth", -20, () -> x.work(1));
        due("there is no fault", -1, () -> x.fault());
        due("the tape is empty", 0, () -> x.kept(1));
        bad("n goes ahead of -20", () -> x.work(1));
        due("undo", 15, () -> x.undo());
        due("then there is room", 0, () -> x.work(0));
        due("and none again", -20, () -> x.work(0));
    }

    private void clocks() {
        start("6", SUMMER);
        due("two", 2, () -> Check.clocks(x, " 0 999 ;999 0; "));
        due("lines", 2, () -> x.told(8));
        due("a fault", -8, () -> Check.clocks(x, "1 2;3 1000;"));
        due("the old ones stay", 2, () -> x.told(8));
        due("ten", 10, () -> Check.clocks(x, "1 2;".repeat(10)));
        due("eleven", -7, () -> Check.clocks(x, "1 2;".repeat(11)));
        due("none", 0, () -> x.clocks(0));
        due("none are there", 0, () -> x.told(8));
        Check.feed(x, " ".repeat(101));
        bad("n above 100", () -> x.clocks(101));
        due("the tape stays", 120, () -> x.kept(1));
        due("n of 100", 0, () -> x.clocks(100));
        bad("n above the tape", () -> x.clocks(1));
        bad("n below 0", () -> x.clocks(-1));
    }

    private void fault() {
        start("7", SUMMER);
        due("none", -1, () -> x.fault());
        Check.law(x, "1 + ?");
        due("its place", 4, () -> x.fault());
        bad("another call", () -> x.law(1));
        due("it stays", 4, () -> x.fault());
        Check.clocks(x, "1 2;");
        due("the latest text has none", -1, () -> x.fault());
    }

    private void undo() {
        start("8", SUMMER);
        due("there is none", -1, () -> x.undo());
        look("look 0;star 0;throw 1;");
        look("look 2;look 2;evening;evening;save 1;");
        due("refused", 1, () -> x.told(9));
        due("gone", 2, () -> x.picture(1, 5));
        due("one is left", 1, () -> x.undo());
        due("refused is 0", 0, () -> x.told(9));
        due("thrown", 1, () -> x.picture(1, 5));
        due("tired", 5, () -> x.told(2));
        due("evening", 0, () -> x.told(3));
        due("never looked at", -1, () -> x.picture(2, 7));
        due("not looked at", 0, () -> x.picture(2, 8));
        due("a star", 1, () -> x.told(7));
        due("none is left", 0, () -> x.undo());
        due("no star", 0, () -> x.told(7));
        due("no look", 0, () -> x.told(1));
        due("kept", 8, () -> x.told(4));
        due("there is none", -1, () -> x.undo());
    }

    // ---- 9 to 20 ----

    private void told() {
        start("9", SUMMER);
        Check.clocks(x, "1 2;3 4;5 6;");
        look("throw 3;evening;throw 4;evening;look 0;look 0;look 1;star 2;star 5;star 5;rest;look 2;throw 5;");
        long[] want = {8, 4, 12, 2, 5, 2, 1, 1, 3, 1, 5};
        for (int what = 0; what <= 10; what++) {
            int w = what;
            due("told " + w, want[w], () -> x.told(w));
        }
        bad("told 11", () -> x.told(11));
        bad("told -1", () -> x.told(-1));
        bad("told of all", () -> x.told(Integer.MAX_VALUE));
    }

    private void picture() {
        start("10", SUMMER);
        look("look 7;look 7;star 7;throw 0;");
        long[] want = {30, 6, 40, 33, 5, 0, 1, 35, 2};
        for (int what = 0; what <= 8; what++) {
            int w = what;
            due("picture 7, " + w, want[w], () -> x.picture(7, w));
        }
        due("thrown", 1, () -> x.picture(0, 5));
        due("no star", 0, () -> x.picture(0, 6));
        due("never looked at", -1, () -> x.picture(0, 7));
        Check.summer(x, "picture 1 2 3 4 5;".repeat(16));
        due("the last of sixteen, never looked at", -1, () -> x.picture(15, 7));
        due("the last of sixteen", 5, () -> x.picture(15, 4));
        unknown("no picture 16", () -> x.picture(16, 0));
        Check.summer(x, SUMMER);
        unknown("no picture 8", () -> x.picture(8, 0));
        unknown("no picture -1", () -> x.picture(-1, 0));
        unknown("no picture 32", () -> x.picture(32, 0));
        unknown("goes ahead of a wrong what", () -> x.picture(8, 9));
        bad("what 9", () -> x.picture(0, 9));
        bad("what -1", () -> x.picture(0, -1));
    }

    private void person() {
        start("11", SUMMER);
        due("wished", 1, () -> x.person(0, 0));
        due("not wished", 0, () -> x.person(1, 0));
        due("on", 6, () -> x.person(0, 1));
        due("on", 1, () -> x.person(5, 1));
        look("throw 0;");
        due("on kept ones", 5, () -> x.person(0, 1));
        unknown("no person 6", () -> x.person(6, 2));
        unknown("no person -1", () -> x.person(-1, 0));
        bad("what 2", () -> x.person(0, 2));
        bad("what -1", () -> x.person(0, -1));
    }

    private void thought() {
        start("12", SUMMER);
        due("worth - tired", 20, () -> x.thought(0));
        look("look 1;look 2;look 0;look 1;star 7;throw 5;evening;evening;look 2;");
        due("tired", 15, () -> x.thought(0));
        due("gone", 35, () -> x.thought(5));
        due("it stays as it was", -1, () -> x.picture(5, 7));
        Check.law(x, "same*10+looks");
        due("same: of its scene", 35, () -> x.thought(0));
        due("same: of its scene", 25, () -> x.thought(2));
        due("same: never", 5, () -> x.thought(3));
        Check.law(x, "star*50+people*10+day");
        due("star: 50, 20, 30, but 99 at most", 99, () -> x.thought(7));
        due("people, day", 30 + 2, () -> x.thought(3));
        unknown("no picture 8", () -> x.thought(8));
        unknown("no picture -1", () -> x.thought(-1));
    }

    private void would() {
        start("13", SUMMER);
        Check.law(x, "worth+sharp-people+day-tired+looks-same+star");
        due("all", 40 + 9 - 6 + 30 - 50 + 999 - 998 + 1, () -> x.would(40, 9, 6, 30, 50, 999, 998, 1));
        due("none", 0, () -> x.would(0, 0, 0, 0, 0, 0, 0, 0));
        due("0 at least", 0, () -> x.would(0, 0, 0, 0, 99, 0, 0, 0));
        int[] most = {40, 9, 6, 30, 99, 999, 999, 1};
        for (int i = 0; i < 8; i++) {
            int[] high = new int[8];
            high[i] = most[i];
            due("the most of " + i, 1, () -> wouldAll(high) >= 0 ? 1 : 0);
            high[i] = most[i] + 1;
            bad("more of " + i, () -> wouldAll(high));
            int[] low = new int[8];
            low[i] = -1;
            bad("below 0 of " + i, () -> wouldAll(low));
        }
    }

    private long wouldAll(int[] v) {
        return x.would(v[0], v[1], v[2], v[3], v[4], v[5], v[6], v[7]);
    }

    private void favourite() {
        start("14", SUMMER);
        due("none", -1, () -> x.favourite());
        look("look 6;evening;look 2;");
        due("most", 2, () -> x.favourite());
        look("evening;look 7;evening;look 5;");
        due("of alike ones the first", 5, () -> x.favourite());
        look("throw 5;");
        due("kept ones alone", 7, () -> x.favourite());
        look("throw 7;throw 2;throw 6;");
        due("none is kept", -1, () -> x.favourite());
    }

    private void books() {
        start("15", "picture 0 0 10 1 0;picture 0 0 20 0 0;picture 0 0 10 1 1;picture 0 0 20 0 1;picture 0 0 10 0 2;"
                + "size 2;wish 0 1;");
        due("how many", 5, () -> x.books(0));
        due("value", 30, () -> x.books(1));
        due("of alike ones the least bits", 6, () -> x.books(2));
        look("throw 1;");
        due("kept ones alone", 4, () -> x.books(0));
        due("value", 30, () -> x.books(1));
        due("bits", 9, () -> x.books(2));
        look("throw 0;throw 2;");
        due("none", 0, () -> x.books(0));
        due("no value", -1, () -> x.books(1));
        due("no bits", -1, () -> x.books(2));
        bad("what 3", () -> x.books(3));
        bad("what -1", () -> x.books(-1));
        Check.summer(x, "size 0;picture 0 0 1 1 1;");
        due("of none", 1, () -> x.books(0));
        due("its value", 0, () -> x.books(1));
        due("its bits", 0, () -> x.books(2));
        Check.summer(x, "size 0;picture 0 0 1 1 1;wish 0 1;");
        due("of none, with a wish", 0, () -> x.books(0));
        Check.summer(x, "picture 0 0 1 1 1;picture 0 0 1 1 2;picture 0 0 1 1 3;picture 0 0 1 1 4;picture 0 0 1 1 5;");
        due("size is 4 without", 5, () -> x.books(0));
    }

    private void cost() {
        start("16", "picture 0 0 30 0 1;picture 0 0 5 1 2;picture 0 0 9 2 3;size 1;wish 0 1;");
        due("cost", 25, () -> x.cost(0));
        due("of no wish", 0, () -> x.cost(1));
        Check.summer(x, "picture 0 0 30 0 1;picture 0 0 5 1 2;size 1;wish 0 1;wish 3 1;");
        due("a book only then", -1, () -> x.cost(3));
        due("none either way", -2, () -> x.cost(0));
        due("none either way, no wish", -2, () -> x.cost(5));
        unknown("no person 6", () -> x.cost(6));
        unknown("no person -1", () -> x.cost(-1));
    }

    private void swap() {
        start("17", "picture 0 5 0 0 0;picture 0 3 0 0 0;picture 0 3 0 0 0;picture 0 7 0 0 0;picture 0 7 0 0 0;"
                + "picture 0 1 0 0 0;");
        due("the least put out", 1, () -> x.swap(7, 0));
        due("the least put in", 3, () -> x.swap(7, 1));
        due("sharp together", 15, () -> x.swap(7, 2));
        look("throw 3;");
        due("kept ones are put in", 4, () -> x.swap(7, 1));
        due("one that is thrown may be put out", 3, () -> x.swap(8 + 16, 0));
        due("for less, too", 0, () -> x.swap(8 + 16, 1));
        due("sharp together then", 12, () -> x.swap(8 + 16, 2));
        due("of none", -1, () -> x.swap(0, 0));
        due("of all", -1, () -> x.swap(63, 1));
        due("of all that are kept", -1, () -> x.swap(63 - 8, 2));
        bad("bits of no picture", () -> x.swap(64, 0));
        bad("bits below 0", () -> x.swap(-1, 0));
        bad("the highest bit", () -> x.swap(Integer.MIN_VALUE, 0));
        bad("what 3", () -> x.swap(7, 3));
        bad("what -1", () -> x.swap(0, -1));
    }

    private void isBook() {
        start("18", SUMMER);
        due("a book", 1, () -> x.isBook(1 + 4 + 32) ? 1 : 0);
        due("a scene twice", 0, () -> x.isBook(1 + 2 + 4) ? 1 : 0);
        due("too few", 0, () -> x.isBook(1 + 4) ? 1 : 0);
        due("too many", 0, () -> x.isBook(1 + 4 + 32 + 64) ? 1 : 0);
        due("a wish not met", 0, () -> x.isBook(1 + 32 + 64) ? 1 : 0);
        Check.summer(x, "picture 0 0 0 62 0;size 1;wish 0 1;");
        due("a wish for the first person not met", 0, () -> x.isBook(1) ? 1 : 0);
        Check.summer(x, SUMMER);
        look("throw 5;");
        due("one is not kept", 0, () -> x.isBook(1 + 4 + 32) ? 1 : 0);
        bad("bits of no picture", () -> x.isBook(256) ? 1 : 0);
        bad("bits below 0", () -> x.isBook(-1) ? 1 : 0);
    }

    private void heaps() {
        start("19", SUMMER);
        due("how many", 6, () -> x.heaps(0));
        due("the greatest", 2, () -> x.heaps(1));
        due("to be compared", 2, () -> x.heaps(2));
        look("throw 0;throw 3;throw 2;");
        due("how many", 5, () -> x.heaps(0));
        due("the greatest", 1, () -> x.heaps(1));
        due("to be compared", 0, () -> x.heaps(2));
        look("throw 1;throw 4;throw 5;throw 6;throw 7;");
        due("none", 0, () -> x.heaps(0));
        due("the greatest of none", 0, () -> x.heaps(1));
        bad("what 3", () -> x.heaps(3));
        bad("what -1", () -> x.heaps(-1));
    }

    private void doubles() {
        start("20", SUMMER);
        due("two", 3, () -> x.doubles(1));
        due("of one scene with others", 64, () -> x.doubles(6));
        look("throw 0;");
        due("not kept", 0, () -> x.doubles(0));
        due("kept ones alone", 2, () -> x.doubles(1));
        unknown("no picture 8", () -> x.doubles(8));
        unknown("no picture -1", () -> x.doubles(-1));
    }

    // ---- 21 to 30 ----

    private void fraction(String call, long above, long below, java.util.function.IntToLongFunction part) {
        due(call + ", above", above, () -> part.applyAsLong(0));
        due(call + ", below", below, () -> part.applyAsLong(1));
        bad(call + ", part 2", () -> part.applyAsLong(2));
        bad(call + ", part -1", () -> part.applyAsLong(-1));
    }

    private void line() {
        start("21", SUMMER);
        fraction("1, 0", 1, 1, p -> x.line(1, 0, p));
        fraction("2, 1", 1, 2, p -> x.line(2, 1, p));
        fraction("4, 1", 11, 24, p -> x.line(4, 1, p));
        fraction("12, 0", 1, 12, p -> x.line(12, 0, p));
        fraction("12, 11", 1, 12, p -> x.line(12, 11, p));
        bad("n 0", () -> x.line(0, 0, 0));
        bad("n 13", () -> x.line(13, 0, 0));
        bad("r n", () -> x.line(12, 12, 0));
        bad("r -1", () -> x.line(12, -1, 0));
    }

    private void leave() {
        start("22", SUMMER);
        long[] want = {0, 0, 1, 1, 2, 2, 2, 3, 3, 3, 4, 4};
        for (int n = 1; n <= 12; n++) {
            int many = n;
            due("leave " + n, want[n - 1], () -> x.leave(many));
        }
        bad("n 0", () -> x.leave(0));
        bad("n 13", () -> x.leave(13));
    }

    private void knock() {
        start("23", SUMMER);
        fraction("1, 0", 1, 1, p -> x.knock(1, 0, p));
        fraction("2, 0", 0, 1, p -> x.knock(2, 0, p));
        fraction("2, 12", 3, 4, p -> x.knock(2, 12, p));
        fraction("3, 12", 9, 16, p -> x.knock(3, 12, p));
        fraction("33, 8", 1, 64, p -> x.knock(33, 8, p));
        fraction("64, 15", 11390625, 16777216, p -> x.knock(64, 15, p));
        fraction("64, 16", 1, 1, p -> x.knock(64, 16, p));
        bad("n 0", () -> x.knock(0, 8, 0));
        bad("n 65", () -> x.knock(65, 8, 0));
        bad("q -1", () -> x.knock(8, -1, 0));
        bad("q 17", () -> x.knock(8, 17, 0));
    }

    private void often() {
        start("24", SUMMER);
        fraction("1, 0", 0, 1, p -> x.often(1, 0, p));
        fraction("1, 12", 3, 4, p -> x.often(1, 12, p));
        fraction("3, 12", 27, 32, p -> x.often(3, 12, p));
        fraction("9, 8", 1, 2, p -> x.often(9, 8, p));
        fraction("9, 16", 1, 1, p -> x.often(9, 16, p));
        bad("m 0", () -> x.often(0, 8, 0));
        bad("m 2", () -> x.often(2, 8, 0));
        bad("m 8", () -> x.often(8, 8, 0));
        bad("m 10", () -> x.often(10, 8, 0));
        bad("m 11", () -> x.often(11, 8, 0));
        bad("m -1", () -> x.often(-1, 8, 0));
        bad("q -1", () -> x.often(3, -1, 0));
        bad("q 17", () -> x.often(3, 17, 0));
    }

    private void order() {
        start("25", SUMMER);
        due("none", 0, () -> x.order(0));
        due("one", 0, () -> x.order(1));
        due("two: the second is tired", 5, () -> x.order(1 + 4));
        due("six: those of little worth at the end", 5 + 10 + 15 + 12 + 8, () -> x.order(63));
        due("nothing stays changed", 0, () -> x.told(1));
        bad("seven", () -> x.order(127));
        bad("bits of no picture", () -> x.order(256));
        bad("bits below 0", () -> x.order(-1));
        look("look 0;throw 5;");
        due("one that is thrown is looked at", 5, () -> x.order(32));
        look("evening;evening;");
        bad("one that is gone", () -> x.order(32));
        Check.law(x, "worth - same * 7");
        due("same as looked at, too", 7 + 12, () -> x.order(3));
        Check.law(x, "worth + 5");
        due("0 at least", 0, () -> x.order(3));
        Check.summer(x, "picture 0 0 40 0 0;picture 0 0 40 0 0;tire 9;");
        look("again 10[look 0;];");
        Check.law(x, "tired - 69");
        due("tired is 99 at most", 40 - 21 + 40 - 30, () -> x.order(3));
    }

    private void ordered() {
        start("26", SUMMER);
        due("of none", -1, () -> x.ordered(0, 0));
        due("of alike rows the first", 0, () -> x.ordered(1 + 4 + 64, 0));
        due("of alike rows the first", 2, () -> x.ordered(1 + 4 + 64, 1));
        due("of alike rows the first", 6, () -> x.ordered(1 + 4 + 64, 2));
        due("not so many", -1, () -> x.ordered(1 + 4 + 64, 3));
        due("far beyond", -1, () -> x.ordered(1, Integer.MAX_VALUE));
        Check.law(x, "worth - looks * day");
        due("by tiredness of each", 7, () -> x.ordered(1 + 4 + 128, 0));
        due("by tiredness of each", 2, () -> x.ordered(1 + 4 + 128, 1));
        due("by tiredness of each", 0, () -> x.ordered(1 + 4 + 128, 2));
        bad("place -1", () -> x.ordered(1, -1));
        bad("seven", () -> x.ordered(127, 0));
        bad("bits of no picture", () -> x.ordered(256, 0));
        look("throw 0;evening;evening;");
        bad("one that is gone", () -> x.ordered(1, 0));
    }

    private void off() {
        start("27", SUMMER);
        Check.clocks(x, "10 20;20 31;30 42;100 0;");
        due("none fits", 0, () -> x.off(0, 0));
        due("no least", -100, () -> x.off(0, 1));
        due("no greatest", -100, () -> x.off(0, 2));
        due("no middle", -100, () -> x.off(0, 3));
        due("all but one", 1, () -> x.off(1, 0));
        due("all but one", 11, () -> x.off(1, 1));
        due("all but two", 3, () -> x.off(2, 0));
        due("least", 10, () -> x.off(2, 1));
        due("greatest", 12, () -> x.off(2, 2));
        due("middle", 11, () -> x.off(2, 3));
        due("all but three", 6, () -> x.off(3, 0));
        due("least", -99, () -> x.off(3, 1));
        due("greatest", 13, () -> x.off(3, 2));
        due("all but four", 199, () -> x.off(4, 0));
        due("all but ten", 0, () -> x.off(10, 3));
        Check.clocks(x, "0 99;0 98;");
        due("to 99", 99, () -> x.off(0, 2));
        due("of an even number the lesser", 98, () -> x.off(0, 3));
        bad("e 11", () -> x.off(11, 0));
        bad("e -1", () -> x.off(-1, 0));
        bad("what 4", () -> x.off(0, 4));
        bad("what -1", () -> x.off(0, -1));
    }

    private void bestOff() {
        start("28", SUMMER);
        due("without lines", 0, () -> x.bestOff());
        Check.clocks(x, "10 15;15 10;");
        due("of alike ones below 0", -4, () -> x.bestOff());
        Check.clocks(x, "10 15;15 10;20 25;");
        due("most are right", 4, () -> x.bestOff());
        Check.clocks(x, "0 101;200 0;");
        due("none is right", 0, () -> x.bestOff());
        Check.clocks(x, "0 100;");
        due("99", 99, () -> x.bestOff());
        Check.clocks(x, "5 5;7 9;");
        due("both", 1, () -> x.bestOff());
    }

    private void eyes() {
        start("29", SUMMER);
        fraction("0, 0, 0", 0, 1, p -> x.eyes(0, 0, 0, p));
        fraction("0, 0, 1", 1, 1, p -> x.eyes(0, 0, 1, p));
        fraction("3, 16, 5", 1, 1, p -> x.eyes(3, 16, 5, p));
        fraction("1, 8, 5", 31, 32, p -> x.eyes(1, 8, 5, p));
        fraction("3, 0, 5", 0, 1, p -> x.eyes(3, 0, 5, p));
        fraction("3, 1, 5", (1L << 60) - 4095L * 4095 * 4095 * 4095 * 4095, 1L << 60, p -> x.eyes(3, 1, 5, p));
        bad("x 4", () -> x.eyes(4, 8, 1, 0));
        bad("x -1", () -> x.eyes(-1, 8, 1, 0));
        bad("q 17", () -> x.eyes(1, 17, 1, 0));
        bad("q -1", () -> x.eyes(1, -1, 1, 0));
        bad("n 6", () -> x.eyes(1, 8, 6, 0));
        bad("n -1", () -> x.eyes(1, 8, -1, 0));
    }

    private void need() {
        start("30", SUMMER);
        due("c 0", 0, () -> x.need(2, 0, 0));
        due("q 8: 1 less 2 to the -n", 4, () -> x.need(1, 8, 15));
        due("never all", -1, () -> x.need(1, 15, 16));
        due("sure", 1, () -> x.need(2, 16, 16));
        due("of none", 1, () -> x.need(0, 0, 16));
        due("seven are enough", 7, () -> x.need(2, 7, 12));
        due("seven are not enough", -1, () -> x.need(2, 7, 13));
        bad("x 3", () -> x.need(3, 8, 8));
        bad("x -1", () -> x.need(-1, 8, 8));
        bad("q 17", () -> x.need(1, 17, 8));
        bad("q -1", () -> x.need(1, -1, 8));
        bad("c 17", () -> x.need(1, 8, 17));
        bad("c -1", () -> x.need(1, 8, -1));
    }

    // ---- 31 to 43 ----

    private void day() {
        start("31", SUMMER + "picture 30 0 40 0 0;");
        due("how many", 2, () -> x.day(0, 0));
        due("of most worth", 5, () -> x.day(3, 1));
        due("of alike ones the first", 7, () -> x.day(30, 1));
        look("throw 7;");
        due("kept ones alone", 1, () -> x.day(30, 0));
        due("kept ones alone", 8, () -> x.day(30, 1));
        due("none", 0, () -> x.day(29, 0));
        due("none", -1, () -> x.day(29, 1));
        bad("day 31", () -> x.day(31, 0));
        bad("day -1", () -> x.day(-1, 0));
        bad("what 2", () -> x.day(0, 2));
        bad("what -1", () -> x.day(0, -1));
    }

    private void together() {
        start("32", SUMMER);
        due("two", 4, () -> x.together(0, 1, 0));
        due("just these", 3, () -> x.together(1, 0, 1));
        due("one twice", 6, () -> x.together(0, 0, 0));
        due("just one", 64, () -> x.together(0, 0, 1));
        look("throw 1;throw 6;");
        due("kept ones alone", 3, () -> x.together(0, 1, 0));
        due("kept ones alone", 1, () -> x.together(0, 1, 1));
        due("kept ones alone", 0, () -> x.together(0, 0, 1));
        unknown("no person 6", () -> x.together(6, 0, 2));
        unknown("no other 6", () -> x.together(0, 6, 2));
        unknown("no other -1", () -> x.together(0, -1, 0));
        bad("what 2", () -> x.together(0, 0, 2));
        bad("what -1", () -> x.together(0, 0, -1));
    }

    private void missing() {
        start("33", SUMMER + "wish 5 1;wish 1 4;wish 0 7;wish 3 0;");
        due("as many as wished are enough", 1, () -> x.missing());
        look("throw 7;throw 1;");
        due("kept ones alone", 1 + 2 + 32, () -> x.missing());
    }

    private void strict() {
        start("34", SUMMER);
        due("none was looked at", 0, () -> x.strict(0));
        look("look 5;evening;look 7;evening;look 2;");
        due("none", 41, () -> x.strict(0));
        due("one, of two alike none", 41, () -> x.strict(1));
        due("two", 31, () -> x.strict(2));
        due("three", 0, () -> x.strict(3));
        due("sixteen", 0, () -> x.strict(16));
        look("throw 5;");
        due("kept ones alone", 31, () -> x.strict(1));
        Check.law(x, "99");
        look("look 7;");
        due("100", 100, () -> x.strict(0));
        bad("n 17", () -> x.strict(17));
        bad("n -1", () -> x.strict(-1));
    }

    private void binned() {
        start("35", SUMMER);
        look("throw 1;");
        due("at once", 2, () -> x.binned(1));
        look("evening;");
        due("an evening later", 1, () -> x.binned(1));
        due("kept", -1, () -> x.binned(0));
        look("evening;");
        due("gone", -1, () -> x.binned(1));
        unknown("no picture 8", () -> x.binned(8));
        unknown("no picture -1", () -> x.binned(-1));
        Check.summer(x, "picture 0 0 0 0 0;".repeat(16));
        look("evening;throw 15;");
        look("evening;");
        due("the last of sixteen, over two works", 2, () -> x.binned(15));
        Check.summer(x, "picture 0 0 0 0 0;bin 30;");
        look("again 19[evening;evening;evening;evening;evening;evening;evening;evening;evening;evening;];");
        look("again 10[evening;];throw 0;evening;");
        due("beyond 200", 30, () -> x.binned(0));
        due("no more evenings", 200, () -> x.told(3));
    }

    private void scene() {
        start("36", SUMMER);
        due("how many", 2, () -> x.scene(3, 0));
        due("the sharpest", 4, () -> x.scene(3, 1));
        due("of alike ones the first", 6, () -> x.scene(5, 1));
        look("throw 6;");
        due("kept ones alone", 7, () -> x.scene(5, 1));
        due("kept ones alone", 1, () -> x.scene(5, 0));
        due("none", 0, () -> x.scene(9, 0));
        due("none", -1, () -> x.scene(0, 1));
        bad("scene 10", () -> x.scene(10, 0));
        bad("scene -1", () -> x.scene(-1, 0));
        bad("what 2", () -> x.scene(0, 2));
        bad("what -1", () -> x.scene(0, -1));
    }

    private void friend() {
        start("37", SUMMER);
        due("most", 1, () -> x.friend(0, 0));
        due("how many", 4, () -> x.friend(0, 1));
        due("of alike ones the first", 0, () -> x.friend(2, 0));
        due("how many", 2, () -> x.friend(2, 1));
        due("nobody", -1, () -> x.friend(4, 0));
        due("nobody", -1, () -> x.friend(4, 1));
        look("throw 7;");
        due("kept ones alone", -1, () -> x.friend(5, 0));
        unknown("no person 6", () -> x.friend(6, 2));
        unknown("no person -1", () -> x.friend(-1, 0));
        bad("what 2", () -> x.friend(0, 2));
        bad("what -1", () -> x.friend(0, -1));
    }

    private void goesOn() {
        start("38", "picture 0 0 10 0 0;picture 0 0 20 0 1;picture 0 0 40 0 2;tire 4;");
        // Seed 1: 1103527590, drawn 16838, by 3 is 2; then 2524885223, drawn 5758, by 16 is 14.
        due("the third is looked at, thrown", 30, () -> x.goesOn(1, 1, 0, 41, 3));
        due("worth as much as b: kept", 70, () -> x.goesOn(1, 1, 0, 40, 3));
        due("14 is not below 14", 0, () -> x.goesOn(1, 1, 14, 0, 2));
        due("14 is below 15", 1, () -> x.goesOn(1, 1, 15, 0, 2));
        due("tired is half", 2, () -> x.goesOn(1, 1, 15, 0, 1));
        due("kept", 2, () -> x.goesOn(1, 1, 0, 41, 0));
        due("none is left: no more draws", 12, () -> x.goesOn(1, 60, 0, 99, 1));
        due("none is left", 0, () -> x.goesOn(1, 60, 0, 99, 0));
        due("three rests at most", 3, () -> x.goesOn(1, 60, 16, 99, 2));
        due("nothing stays changed", 0, () -> x.told(1) + x.told(2) + x.told(5));
        bad("looks 0", () -> x.goesOn(1, 0, 0, 0, 0));
        bad("looks 61", () -> x.goesOn(1, 61, 0, 0, 0));
        bad("q -1", () -> x.goesOn(1, 1, -1, 0, 0));
        bad("q 17", () -> x.goesOn(1, 1, 17, 0, 0));
        bad("b -1", () -> x.goesOn(1, 1, 0, -1, 0));
        bad("b 100", () -> x.goesOn(1, 1, 0, 100, 0));
        bad("what 4", () -> x.goesOn(1, 1, 0, 0, 4));
        bad("what -1", () -> x.goesOn(1, 1, 0, 0, -1));
        Check.summer(x, "picture 0 0 10 0 0;tire 0;");
        due("a rest that can't be done is none", 0, () -> x.goesOn(7, 60, 16, 0, 2));
    }

    private void span() {
        start("39", "picture 0 0 10 0 0;picture 0 0 20 0 1;picture 0 0 40 0 2;tire 0;");
        due("the fewest", 2, () -> x.span(1, 20, 1, 0, 41, 0, 0));
        due("the most, some look at the best", 3, () -> x.span(1, 20, 1, 0, 40, 1, 0));
        due("the fewest, some do not", 2, () -> x.span(1, 20, 1, 0, 40, 0, 0));
        due("one is thrown by each seed", 40, () -> x.span(1, 20, 1, 0, 41, 2, 0) + x.span(1, 20, 1, 0, 41, 2, 1)
                + x.span(1, 20, 1, 0, 41, 2, 2));
        due("one seed: as goesOn", 0, () -> x.span(1, 1, 1, 0, 41, 2, 2));
        due("seeds wrap", 2, () -> x.span(Integer.MAX_VALUE, 2, 1, 0, 41, 0, 0));
        due("nothing stays changed", 0, () -> x.told(1) + x.told(2) + x.told(5));
        bad("many 0", () -> x.span(1, 0, 1, 0, 0, 0, 0));
        bad("many 21", () -> x.span(1, 21, 1, 0, 0, 0, 0));
        bad("looks 0", () -> x.span(1, 1, 0, 0, 0, 0, 0));
        bad("looks 61", () -> x.span(1, 1, 61, 0, 0, 0, 0));
        bad("q -1", () -> x.span(1, 1, 1, -1, 0, 0, 0));
        bad("q 17", () -> x.span(1, 1, 1, 17, 0, 0, 0));
        bad("b -1", () -> x.span(1, 1, 1, 0, -1, 0, 0));
        bad("b 100", () -> x.span(1, 1, 1, 0, 100, 0, 0));
        bad("what 3", () -> x.span(1, 1, 1, 0, 0, 3, 0));
        bad("what -1", () -> x.span(1, 1, 1, 0, 0, -1, 0));
        bad("no picture 3", () -> x.span(1, 1, 1, 0, 0, 2, 3));
        bad("no picture 3, for 0, too", () -> x.span(1, 1, 1, 0, 0, 0, 3));
        bad("no picture -1, for 1, too", () -> x.span(1, 1, 1, 0, 0, 1, -1));
    }

    private void image() {
        start("40", SUMMER);
        due("one", 1, () -> x.image());
        due("two", 2, () -> x.image());
        due("three", 3, () -> x.image());
        due("there are three", -1, () -> x.image());
        due("three stay", 3, () -> x.kept(0));
        x.restore();
        due("three again", 3, () -> x.image());
    }

    private void restore() {
        start("41", SUMMER);
        due("there is none", -1, () -> x.restore());
        look("look 0;star 0;");
        x.image();
        look("look 1;throw 0;evening;");
        Check.law(x, "9");
        Check.clocks(x, "1 2;");
        x.image();
        look("look 1;rest;rest;rest;rest;rest;");
        x.undo();
        x.undo();
        look("throw 7;throw 7;");
        due("refused", 1, () -> x.told(9));
        due("one is left", 1, () -> x.restore());
        due("refused is 0", 0, () -> x.told(9));
        due("works", 2, () -> x.kept(2));
        due("thrown", 1, () -> x.picture(0, 5));
        due("evening", 1, () -> x.told(3));
        due("the law stays", 9, () -> x.thought(0));
        due("the clocks stay", 1, () -> x.told(8));
        due("what it had can be undone", 1, () -> x.undo());
        due("kept", 0, () -> x.picture(0, 5));
        look("evening;evening;throw 3;");
        due("none is left", 0, () -> x.restore());
        due("star", 1, () -> x.picture(0, 6));
        due("tired", 5, () -> x.told(2));
        due("works", 1, () -> x.kept(2));
        look("rest;star 0;");
        due("there is none", -1, () -> x.restore());
        due("so nothing is done", 1, () -> x.told(9));
        due("undo", 1, () -> x.undo());
        due("undo", 0, () -> x.undo());
        due("as at first", 0, () -> x.told(1) + x.told(7));
    }

    private void status() {
        start("42", SUMMER);
        x.image();
        unknown("one", () -> x.picture(9, 9));
        unknown("two", () -> x.cost(-1));
        bad("one", () -> x.told(-1));
        x.restore();
        Check.summer(x, "");
        due("no image keeps it", 2, () -> x.status(0));
        due("nor a summer", 1, () -> x.status(1));
        due("others", -1, () -> x.status(2));
        due("others", -1, () -> x.status(-1));
        due("others", -1, () -> x.status(Integer.MIN_VALUE));
    }

    private void kept() {
        start("43", SUMMER);
        x.image();
        x.image();
        look("look 0;");
        Check.feed(x, "x".repeat(41));
        due("images", 2, () -> x.kept(0));
        due("bytes", 60, () -> x.kept(1));
        due("works", 1, () -> x.kept(2));
        due("others", -1, () -> x.kept(3));
        due("others", -1, () -> x.kept(-1));
    }
}
