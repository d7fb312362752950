import java.util.ArrayList;
import java.util.List;

/** What would come of looks that are not done: orders and summers by seeds, held against looks that are done. */
public final class LooksAheadTest {
    private static final String SIX = "picture 3 4 20 5 1;picture 3 9 40 5 1;picture 30 0 0 0 9;picture 0 7 31 63 2;"
            + "picture 1 2 3 4 2;picture 9 9 25 1 1;";
    private static final int ALL_SIX = 63;

    private final Check check = new Check();

    public static void main(String[] args) {
        LooksAheadTest test = new LooksAheadTest();
        test.ordersOfSets();
        test.ordersByLaws();
        test.ordersOfAlikeRows();
        test.ordersOfFewAndMany();
        test.ordersOfThrownOnes();
        test.placesOfOrders();
        test.drawsBySeeds();
        test.seedsAgainstWorks();
        test.thrownBelowB();
        test.restsByQ();
        test.noneIsLeft();
        test.spans();
        test.spansOfSeeds();
        test.check.end("LooksAheadTest");
    }

    private Case of(String name, String summer) {
        return new Case(check, name, summer);
    }

    // ---- orders ----

    /** All rows of a set are looked at one by one, each by an object of its own. */
    private void orderAsLooks(String summer, String law, String steps, int bits) {
        List<Integer> best = new ArrayList<>();
        int[] least = {Integer.MAX_VALUE};
        tryRows(summer, law, steps, bits, new ArrayList<>(), best, least);
        Case one = of("order of " + bits + " by " + law + " behind " + steps, summer).law(law);
        one.due("before", 1, x -> Check.work(x, steps) >= 0 ? 1 : 0);
        String before = one.state();
        one.due("lost", least[0], x -> x.order(bits));
        for (int place = 0; place <= best.size(); place++) {
            int at = place;
            one.due("place " + at, at < best.size() ? best.get(at) : -1, x -> x.ordered(bits, at));
        }
        one.as(before).kept(2, 1);
    }

    private static void tryRows(String summer, String law, String steps, int left, List<Integer> row, List<Integer> best,
            int[] least) {
        if (left == 0) {
            int lost = lostByLooks(summer, law, steps, row);
            if (lost < least[0]) {
                least[0] = lost;
                best.clear();
                best.addAll(row);
            }
            return;
        }
        for (int p = 0; p < 16; p++) {
            if ((left >> p & 1) == 1) {
                row.add(p);
                tryRows(summer, law, steps, left & ~(1 << p), row, best, least);
                row.remove(row.size() - 1);
            }
        }
    }

    private static int lostByLooks(String summer, String law, String steps, List<Integer> row) {
        SummerPictures x = new SummerPictures();
        Check.summer(x, summer);
        Check.law(x, law);
        Check.work(x, steps);
        int lost = 0;
        for (int p : row) {
            Check.work(x, "look " + p + ";");
            lost += Math.max(0, x.picture(p, 2) - x.picture(p, 7));
        }
        return lost;
    }

    private void ordersOfSets() {
        for (int bits = 0; bits <= ALL_SIX; bits++) {
            orderAsLooks(SIX + "tire 3;", "worth-tired", "look 0;star 1;throw 2;", bits);
        }
    }

    private void ordersByLaws() {
        for (String law : List.of("worth-looks*day", "worth-same*7", "worth*2/(tired+1)", "star*50-tired", "99", "0",
                "least[worth,tired]", "sharp*looks", "worth-most[same*same*4-tired,looks]")) {
            orderAsLooks(SIX + "tire 9;", law, "again 8[look 5;];rest;star 3;", 59);
            orderAsLooks(SIX + "tire 0;", law, "", 47);
            orderAsLooks(SIX, law, "look 3;throw 4;look 4;evening;", 30);
        }
        orderAsLooks(SIX + "tire 9;", "worth-tired*same/3", "star 2;look 0;", ALL_SIX);
    }

    /** Of alike rows the first: by the numbers of the pictures, place by place. */
    private void ordersOfAlikeRows() {
        Case alike = of("all alike", "picture 0 0 9 0 0;".repeat(16) + "tire 2;");
        for (int place = 0; place < 6; place++) {
            int at = place;
            alike.due("of the last six", 10 + at, x -> x.ordered(0xfc00, at));
            alike.due("of six apart", new int[] {0, 3, 6, 9, 12, 15}[at], x -> x.ordered(0x9249, at));
        }
        alike.due("lost", 2 + 4 + 6 + 8 + 9, x -> x.order(0xfc00));
        Case two = of("the second and the third are alike", "picture 0 0 1 0 0;picture 0 0 9 0 0;picture 0 0 9 0 0;"
                + "tire 5;");
        two.due("lost", 5 + 1, x -> x.order(7)).due("first", 1, x -> x.ordered(7, 0)).due("then", 2, x -> x.ordered(7, 1));
        two.due("at the end", 0, x -> x.ordered(7, 2));
    }

    private void ordersOfFewAndMany() {
        Case many = of("few and many", "picture 0 0 40 0 0;".repeat(16));
        many.due("of none", 0, x -> x.order(0)).due("of none", -1, x -> x.ordered(0, 0));
        many.due("of one", 0, x -> x.order(1 << 15)).due("of one", 15, x -> x.ordered(1 << 15, 0));
        many.due("of six", 15, x -> x.order(63)).due("of seven", Check.BAD_ARGUMENT, x -> x.order(127));
        many.due("of six at the end", 15, x -> x.order(63 << 10)).due("of sixteen", Check.BAD_ARGUMENT, x -> x.order(65535));
        many.due("of no pictures", Check.BAD_ARGUMENT, x -> x.order(1 << 16)).due("below 0", Check.BAD_ARGUMENT,
                x -> x.order(-1)).refused(0, 4);
        of("tired 99", "picture 0 0 40 0 0;".repeat(3) + "tire 9;").law("tired-69").work("again 10[look 0;];", 10)
                .due("90, 99, 99", 19 + 10 + 10, x -> x.order(7)).work("look 1;", 1)
                .due("99, 99, 99", 30, x -> x.order(7)).told(2, 99).told(1, 11);
        of("what is lost is never below 0", "picture 0 0 5 0 0;picture 0 0 40 0 0;tire 0;").law("20")
                .due("only of the second", 20, x -> x.order(3)).due("of the first", 0, x -> x.order(1));
    }

    private void ordersOfThrownOnes() {
        Case one = of("thrown, gone", SIX + "bin 1;").work("throw 1;", 1).due("thrown", 1, x -> x.order(3));
        one.due("it is in the row", 1, x -> x.ordered(3, 0) + x.ordered(3, 1)).work("evening;", 1);
        one.due("gone", Check.BAD_ARGUMENT, x -> x.order(3)).due("gone", Check.BAD_ARGUMENT, x -> x.ordered(2, 0));
        one.due("gone, a place too far", Check.BAD_ARGUMENT, x -> x.ordered(3, 9)).due("without it", 0, x -> x.order(1));
        one.refused(0, 3).undo(1).due("not yet gone", 1, x -> x.order(3));
    }

    private void placesOfOrders() {
        Case one = of("places", SIX);
        for (int place : new int[] {2, 3, 6, 7, 31, 32, 64, Integer.MAX_VALUE}) {
            one.due("not so many as " + place, -1, x -> x.ordered(3, place));
        }
        one.due("the sixth", 4, x -> x.ordered(ALL_SIX, 5)).due("no seventh", -1, x -> x.ordered(ALL_SIX, 6));
        one.due("below 0", Check.BAD_ARGUMENT, x -> x.ordered(3, -1));
        one.due("below 0, of none", Check.BAD_ARGUMENT, x -> x.ordered(0, -1));
        one.due("far below", Check.BAD_ARGUMENT, x -> x.ordered(3, Integer.MIN_VALUE)).refused(0, 3);
    }

    // ---- seeds ----

    /** The seed as a number of 32 bits without sign, so that nothing wraps by itself. */
    private static final class Draws {
        private long seed;

        Draws(int seed) {
            this.seed = Integer.toUnsignedLong(seed);
        }

        int by(int many) {
            seed = (seed * 1_103_515_245L + 12_345L) % 4_294_967_296L;
            return (int) (seed / 65_536 % 32_768 % many);
        }
    }

    /** Each of sixteen is worth another number: which one is thrown tells which one was drawn. */
    private void drawsBySeeds() {
        StringBuilder all = new StringBuilder();
        for (int i = 0; i < 16; i++) {
            all.append("picture 0 0 ").append(i).append(" 0 0;");
        }
        for (int many : new int[] {1, 2, 3, 7, 16}) {
            String summer = all.substring(0, all.indexOf("picture 0 0 " + (many - 1) + " ")) + "picture 0 0 " + (many - 1)
                    + " 0 0;";
            for (int seed : new int[] {0, 1, -1, 5, 77, 65535, 65536, 1 << 30, Integer.MAX_VALUE, Integer.MIN_VALUE,
                -12345, 1103515245}) {
                int drawn = new Draws(seed).by(many);
                int sum = many * (many - 1) / 2;
                of("draw by " + many + ", seed " + seed, summer).due("thrown", sum - drawn, x -> x.goesOn(seed, 1, 0, 99, 3))
                        .due("kept", many - 1, x -> x.goesOn(seed, 1, 0, 99, 0));
            }
        }
    }

    /** The same is done by works: a look, a rest that may be refused, a throw. */
    private void seedsAgainstWorks() {
        String[] laws = {"worth-tired", "worth-same*9", "sharp*4+star*30-looks", "99", "0"};
        for (int i = 0; i < 60; i++) {
            int seed = i * 715827883 + i;
            int looks = 1 + i % 12;
            int q = i % 17;
            int b = i * 7 % 100;
            String law = laws[i % laws.length];
            String steps = i % 2 == 0 ? "" : "look 0;look 1;throw 3;star 1;evening;look 2;";
            Case asked = of("seed " + seed, SIX + "tire " + i % 10 + ";bin 1;").law(law);
            asked.due("before", 1, x -> Check.work(x, steps) >= 0 ? 1 : 0);
            String before = asked.state();
            SummerPictures done = new SummerPictures();
            Check.summer(done, SIX + "tire " + i % 10 + ";bin 1;");
            Check.law(done, law);
            Check.work(done, steps);
            int rests = goOn(done, seed, looks, q, b);
            int worth = 0;
            for (int p = 0; p < 6; p++) {
                worth += done.picture(p, 5) == 0 ? done.picture(p, 2) : 0;
            }
            int worths = worth;
            asked.due("kept", done.told(4), x -> x.goesOn(seed, looks, q, b, 0));
            asked.due("tired", done.told(2), x -> x.goesOn(seed, looks, q, b, 1));
            asked.due("rests", rests, x -> x.goesOn(seed, looks, q, b, 2));
            asked.due("worths", worths, x -> x.goesOn(seed, looks, q, b, 3));
            for (int p = 0; p < 6; p++) {
                int picture = p;
                asked.due("kept " + p, done.picture(p, 5) == 0 ? 1 : 0, x -> x.span(seed, 1, looks, q, b, 2, picture));
            }
            asked.due("fewest", done.told(4), x -> x.span(seed, 1, looks, q, b, 0, 0));
            asked.due("most", done.told(4), x -> x.span(seed, 1, looks, q, b, 1, 0)).as(before).kept(2, 1).refused(0, 0);
        }
    }

    /** A throw stands ahead of the next look in one work, since sixteen works are all that may be. */
    private static int goOn(SummerPictures x, int seed, int looks, int q, int b) {
        List<Integer> left = new ArrayList<>();
        for (int p = 0; p < x.told(0); p++) {
            if (x.picture(p, 5) == 0) {
                left.add(p);
            }
        }
        Draws draws = new Draws(seed);
        int rests = 0;
        String thrown = "";
        for (int i = 0; i < looks && !left.isEmpty(); i++) {
            int p = left.get(draws.by(left.size()));
            int rest = draws.by(16) < q ? 1 : 0;
            Check.work(x, thrown + "look " + p + ";" + "rest;".repeat(rest));
            rests += rest - x.told(9);
            boolean isThrown = x.picture(p, 7) < b;
            thrown = isThrown ? "throw " + p + ";" : "";
            if (isThrown) {
                left.remove((Integer) p);
            }
        }
        Check.work(x, thrown);
        return rests;
    }

    private void thrownBelowB() {
        Case one = of("below b", "picture 0 0 40 0 0;tire 0;");
        one.due("as much as b", 1, x -> x.goesOn(3, 60, 0, 40, 0)).due("one less", 0, x -> x.goesOn(3, 60, 0, 41, 0));
        one.due("b 0", 1, x -> x.goesOn(3, 60, 0, 0, 0)).due("b 99", 0, x -> x.goesOn(3, 1, 0, 99, 0));
        one.law("0").due("0 is not below 0", 1, x -> x.goesOn(3, 60, 0, 0, 0)).due("b 1", 0, x -> x.goesOn(3, 1, 0, 1, 0));
        one.law("99").due("99 is not below 99", 1, x -> x.goesOn(3, 60, 0, 99, 0));
        one.law("worth-tired").due("what is thought ahead of the rest", 1, x -> x.goesOn(3, 1, 16, 40, 0));
        of("looks till it is thrown", "picture 0 0 40 0 0;tire 1;").due("1", 1, x -> x.goesOn(3, 1, 0, 40, 1))
                .due("the second look", 2, x -> x.goesOn(3, 60, 0, 40, 1)).due("5", 5, x -> x.goesOn(3, 5, 0, 0, 1))
                .due("60", 60, x -> x.goesOn(3, 60, 0, 0, 1)).due("59", 59, x -> x.goesOn(3, 59, 0, 0, 1));
        of("99 at most", "picture 0 0 40 0 0;tire 9;").due("tired", 99, x -> x.goesOn(3, 60, 0, 0, 1))
                .due("at 11", 99, x -> x.goesOn(3, 11, 0, 0, 1)).due("at 10", 90, x -> x.goesOn(3, 10, 0, 0, 1));
    }

    private void restsByQ() {
        String one = "picture 0 0 40 0 0;";
        of("q 16: each time", one + "tire 1;").due("rests", 60, x -> x.goesOn(3, 60, 16, 0, 2))
                .due("tired", 0, x -> x.goesOn(3, 60, 16, 0, 1));
        of("q 0: never", one + "tire 1;").due("rests", 0, x -> x.goesOn(3, 60, 0, 0, 2));
        of("not tired: no rests", one + "tire 0;").due("rests", 0, x -> x.goesOn(3, 60, 16, 0, 2));
        for (int q = 0; q <= 16; q++) {
            int below = q;
            int rests = 0;
            Draws draws = new Draws(9);
            for (int i = 0; i < 60; i++) {
                draws.by(1);
                rests += draws.by(16) < q ? 1 : 0;
            }
            int want = rests;
            of("q " + q, one + "tire 9;").due("rests", want, x -> x.goesOn(9, 60, below, 0, 2));
        }
    }

    /** Without any nothing is drawn, looked at, rested. */
    private void noneIsLeft() {
        Case one = of("none is left", "picture 0 0 1 0 0;picture 0 0 2 0 0;tire 8;");
        one.due("two looks", 16, x -> x.goesOn(3, 2, 0, 99, 1)).due("then none", 16, x -> x.goesOn(3, 60, 0, 99, 1));
        one.due("two rests", 2, x -> x.goesOn(3, 60, 16, 99, 2)).due("8, 4, 12, 6", 6, x -> x.goesOn(3, 60, 16, 99, 1));
        one.due("worths", 0, x -> x.goesOn(3, 60, 0, 99, 3));
        one.work("look 0;throw 0;throw 1;", 3).due("at first none", 8, x -> x.goesOn(3, 60, 16, 99, 1));
        one.due("no rests", 0, x -> x.goesOn(3, 60, 16, 99, 2)).due("none", 0, x -> x.goesOn(3, 60, 16, 99, 0));
        one.due("span", 0, x -> x.span(3, 20, 60, 16, 99, 1, 1));
    }

    private void spans() {
        Case one = of("spans", SIX + "tire 4;");
        for (int many : new int[] {1, 2, 19, 20}) {
            for (int seed : new int[] {0, 7, Integer.MAX_VALUE, Integer.MAX_VALUE - 1, Integer.MIN_VALUE, -1}) {
                int fewest = 6;
                int most = 0;
                for (int i = 0; i < many; i++) {
                    int kept = onceOf(SIX + "tire 4;", seed + i);
                    fewest = Math.min(fewest, kept);
                    most = Math.max(most, kept);
                }
                int low = fewest;
                int high = most;
                one.due("fewest of " + many + " from " + seed, low, x -> x.span(seed, many, 9, 4, 15, 0, 0));
                one.due("most of " + many + " from " + seed, high, x -> x.span(seed, many, 9, 4, 15, 1, 5));
            }
        }
        one.due("all are kept", 6, x -> x.span(1, 20, 60, 0, 0, 0, 5)).due("all", 20, x -> x.span(1, 20, 60, 0, 0, 2, 5));
        one.due("none is kept", 0, x -> x.span(1, 20, 60, 0, 99, 1, 0)).due("none", 0, x -> x.span(1, 20, 60, 0, 99, 2, 0));
        one.work("throw 5;", 1).due("one that is thrown", 0, x -> x.span(1, 20, 60, 0, 0, 2, 5));
        one.due("five", 5, x -> x.span(1, 20, 60, 0, 0, 1, 5)).told(4, 5).told(1, 0);
    }

    private static int onceOf(String summer, int seed) {
        SummerPictures x = new SummerPictures();
        Check.summer(x, summer);
        return x.goesOn(seed, 9, 4, 15, 0);
    }

    /** Which ones are kept by how many seeds: seed by seed. */
    private void spansOfSeeds() {
        for (int picture = 0; picture < 6; picture++) {
            int p = picture;
            for (int seed : new int[] {3, Integer.MAX_VALUE - 4}) {
                int times = 0;
                for (int i = 0; i < 20; i++) {
                    SummerPictures x = new SummerPictures();
                    Check.summer(x, SIX);
                    times += x.span(seed + i, 1, 9, 4, 25, 2, p);
                }
                int want = times;
                of("by how many seeds", SIX).due("picture " + p, want, x -> x.span(seed, 20, 9, 4, 25, 2, p));
            }
        }
    }
}
