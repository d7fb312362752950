import java.math.BigInteger;
import java.util.ArrayList;
import java.util.List;

/** What is reckoned, for all numbers that are allowed, by going through all cases one by one. */
public final class ReckonedTest {
    private final Check check = new Check();

    public static void main(String[] args) {
        ReckonedTest test = new ReckonedTest();
        test.lines();
        test.longLines();
        test.leaves();
        test.knocks();
        test.oftens();
        test.eyes();
        test.needs();
        test.clocksWithoutLines();
        test.clocksAtTheEnds();
        test.clocksOfAllOffs();
        test.clocksOfAlikeOnes();
        test.check.end("ReckonedTest");
    }

    /** One for each call, since what an object answers is told for 512 calls alone. */
    private static SummerPictures made() {
        return new SummerPictures();
    }

    private static BigInteger big(long n) {
        return BigInteger.valueOf(n);
    }

    /** The parts must be in least terms, and say above of below. */
    private void odds(String call, BigInteger above, BigInteger below, long gotAbove, long gotBelow) {
        BigInteger common = above.gcd(below);
        check.due(call + ", above", above.divide(common).longValueExact(), () -> gotAbove);
        check.due(call + ", below", below.divide(common).longValueExact(), () -> gotBelow);
    }

    // ---- one by one ----

    /** All rows of n: in how many the best is taken. */
    private void lines() {
        for (int n = 1; n <= 8; n++) {
            for (int r = 0; r < n; r++) {
                int[] counts = new int[2];
                countTaken(new int[n], 0, r, counts);
                odds("line " + n + ", " + r, big(counts[0]), big(counts[1]), made().line(n, r, 0), made().line(n, r, 1));
            }
        }
    }

    private static void countTaken(int[] row, int filled, int r, int[] counts) {
        if (filled == row.length) {
            counts[0] += taken(row, r) == row.length ? 1 : 0;
            counts[1]++;
            return;
        }
        for (int rank = 1; rank <= row.length; rank++) {
            boolean isUsed = false;
            for (int i = 0; i < filled; i++) {
                isUsed |= row[i] == rank;
            }
            if (!isUsed) {
                row[filled] = rank;
                countTaken(row, filled + 1, r, counts);
            }
        }
    }

    private static int taken(int[] row, int r) {
        int best = 0;
        for (int i = 0; i < row.length; i++) {
            if (i >= r && row[i] > best) {
                return row[i];
            }
            best = Math.max(best, row[i]);
        }
        return 0;
    }

    /** Row by row is too long from 9 on: the best stands in each place alike likely, so does the best ahead of it. */
    private void longLines() {
        for (int n = 1; n <= 12; n++) {
            for (int r = 0; r < n; r++) {
                BigInteger[] o = lineOdds(n, r);
                odds("line " + n + ", " + r, o[0], o[1], made().line(n, r, 0), made().line(n, r, 1));
            }
        }
    }

    private static BigInteger[] lineOdds(int n, int r) {
        long below = 27720L * n;
        long above = 0;
        for (int place = r; place < n; place++) {
            above += place == 0 ? 27720 : r * (27720L / place);
        }
        // With none left the first is taken, so that no later place counts.
        return new BigInteger[] {big(r == 0 ? 27720 : above), big(below)};
    }

    private void leaves() {
        for (int n = 1; n <= 12; n++) {
            int many = n;
            int best = 0;
            for (int r = 1; r < n; r++) {
                BigInteger[] a = lineOdds(n, r);
                BigInteger[] b = lineOdds(n, best);
                best = a[0].multiply(b[1]).compareTo(b[0].multiply(a[1])) > 0 ? r : best;
            }
            check.due("leave " + n, best, () -> made().leave(many));
        }
        check.due("leave 2: of alike ones the least", 0, () -> made().leave(2));
    }

    // ---- knock-out, often ----

    /** Round by round: where the best stands, whether it is met. */
    private void knocks() {
        for (int n = 1; n <= 64; n++) {
            for (int q = 0; q <= 16; q++) {
                BigInteger above = big(1);
                BigInteger below = big(1);
                List<Integer> left = new ArrayList<>();
                for (int i = 0; i < n; i++) {
                    left.add(i);
                }
                while (left.size() > 1) {
                    List<Integer> next = new ArrayList<>();
                    for (int i = 0; i < left.size(); i += 2) {
                        next.add(left.get(i));
                        boolean isMet = left.get(i) == 0 && i + 1 < left.size();
                        above = isMet ? above.multiply(big(q)) : above;
                        below = isMet ? below.multiply(big(16)) : below;
                    }
                    left = next;
                }
                odds("knock " + n + ", " + q, above, below, made().knock(n, q, 0), made().knock(n, q, 1));
            }
        }
    }

    private void oftens() {
        for (int m = 1; m <= 9; m += 2) {
            for (int q = 0; q <= 16; q++) {
                BigInteger above = big(0);
                for (int told = 0; told < 1 << m; told++) {
                    int right = Integer.bitCount(told);
                    BigInteger ways = big(q).pow(right).multiply(big(16 - q).pow(m - right));
                    above = above.add(2 * right > m ? ways : big(0));
                }
                odds("often " + m + ", " + q, above, big(16).pow(m), made().often(m, q, 0), made().often(m, q, 1));
            }
        }
    }

    // ---- eyes ----

    /** Picture by picture: the odds that none of them will do. */
    private static BigInteger[] eyesOdds(int x, int q, int n) {
        BigInteger none = big(1);
        BigInteger below = big(1);
        for (int i = 0; i < n; i++) {
            none = none.multiply(big(16).pow(x).subtract(big(q).pow(x)));
            below = below.multiply(big(16).pow(x));
        }
        return new BigInteger[] {below.subtract(none), below};
    }

    private void eyes() {
        for (int x = 0; x <= 3; x++) {
            for (int q = 0; q <= 16; q++) {
                for (int n = 0; n <= 5; n++) {
                    BigInteger[] o = eyesOdds(x, q, n);
                    odds("eyes " + x + ", " + q + ", " + n, o[0], o[1], made().eyes(x, q, n, 0), made().eyes(x, q, n, 1));
                }
            }
        }
    }

    private void needs() {
        for (int x = 0; x <= 2; x++) {
            for (int q = 0; q <= 16; q++) {
                for (int c = 0; c <= 16; c++) {
                    int people = x;
                    int open = q;
                    int chance = c;
                    check.due("need " + x + ", " + q + ", " + c, leastNeeded(x, q, c), () -> made().need(people, open, chance));
                }
            }
        }
    }

    private static int leastNeeded(int x, int q, int c) {
        for (int n = 0; n <= 7; n++) {
            BigInteger[] o = eyesOdds(x, q, n);
            if (o[0].multiply(big(16)).compareTo(o[1].multiply(big(c))) >= 0) {
                return n;
            }
        }
        return -1;
    }

    // ---- clocks ----

    private void off(Case one, int e, int many, int least, int greatest, int middle) {
        one.due("fits by " + e, many, x -> x.off(e, 0)).due("the least by " + e, least, x -> x.off(e, 1));
        one.due("the greatest by " + e, greatest, x -> x.off(e, 2)).due("the middle by " + e, middle, x -> x.off(e, 3));
    }

    private Case clocks(String text, int lines) {
        return new Case(check, "clocks " + text, "").clocks(text, lines);
    }

    private void clocksWithoutLines() {
        for (int e = 0; e <= 10; e++) {
            off(new Case(check, "no clocks", ""), e, 199, -99, 99, 0);
            off(clocks("", 0), e, 199, -99, 99, 0);
            off(clocks("0 999;", 1).clocks("", 0), e, 199, -99, 99, 0);
        }
        clocks("", 0).due("best", 0, x -> x.bestOff());
    }

    /** Of one line: off by 97 to 101, to both sides. */
    private void clocksAtTheEnds() {
        off(clocks("0 97;", 1), 0, 3, 96, 98, 97);
        off(clocks("0 98;", 1), 0, 3, 97, 99, 98);
        off(clocks("0 99;", 1), 0, 2, 98, 99, 98);
        off(clocks("0 100;", 1), 0, 1, 99, 99, 99);
        off(clocks("0 101;", 1), 0, 0, -100, -100, -100);
        off(clocks("0 999;", 1), 0, 0, -100, -100, -100);
        off(clocks("98 0;", 1), 0, 3, -99, -97, -98);
        off(clocks("99 0;", 1), 0, 2, -99, -98, -99);
        off(clocks("100 0;", 1), 0, 1, -99, -99, -99);
        off(clocks("101 0;", 1), 0, 0, -100, -100, -100);
        off(clocks("999 0;", 1), 0, 0, -100, -100, -100);
        off(clocks("999 0;", 1), 1, 199, -99, 99, 0);
        off(clocks("0 999;999 0;", 2), 1, 0, -100, -100, -100);
        off(clocks("0 999;999 0;", 2), 2, 199, -99, 99, 0);
        off(clocks("0 999;".repeat(10), 10), 9, 0, -100, -100, -100);
        off(clocks("0 999;".repeat(10), 10), 10, 199, -99, 99, 0);
        clocks("0 100;", 1).due("best", 99, x -> x.bestOff()).clocks("100 0;", 1).due("best", -99, x -> x.bestOff());
        clocks("0 101;", 1).due("best of none", 0, x -> x.bestOff()).clocks("101 0;", 1).due("of none", 0, x -> x.bestOff());
        clocks("999 999;", 1).due("best", 0, x -> x.bestOff());
    }

    private void clocksOfAllOffs() {
        for (int x = -99; x <= 99; x++) {
            int off = x;
            String text = (x < 0 ? 500 : 499) + " " + ((x < 0 ? 500 : 499) + x) + ";";
            Case one = clocks(text + text, 2);
            off(one, 0, Math.min(99, x + 1) - Math.max(-99, x - 1) + 1, Math.max(-99, x - 1), Math.min(99, x + 1),
                    x == 99 ? 98 : x == -99 ? -99 : x);
            one.due("best", off == 0 ? 0 : off > 0 ? off - 1 : off + 1, o -> o.bestOff());
        }
    }

    private void clocksOfAlikeOnes() {
        clocks("50 60;60 50;", 2).due("below 0", -9, x -> x.bestOff());
        clocks("60 50;50 60;", 2).due("below 0", -9, x -> x.bestOff());
        clocks("50 59;60 50;", 2).due("the least size", 8, x -> x.bestOff());
        clocks("50 60;50 60;60 50;", 3).due("most are right", 9, x -> x.bestOff());
        clocks("50 51;60 59;", 2).due("both, 0", 0, x -> x.bestOff());
        clocks("50 52;60 61;", 2).due("both, 1", 1, x -> x.bestOff());
        clocks("0 5;0 8;", 2).due("the least size of two apart", 4, x -> x.bestOff());
        off(clocks("0 5;0 8;", 2), 0, 0, -100, -100, -100);
        off(clocks("0 5;0 8;", 2), 1, 6, 4, 9, 6);
        off(clocks("0 5;0 9;", 2), 1, 6, 4, 10, 6);
        off(clocks("0 5;0 7;", 2), 0, 1, 6, 6, 6);
        off(clocks("0 5;0 6;", 2), 0, 2, 5, 6, 5);
        off(clocks("0 5;0 7;", 2), 1, 5, 4, 8, 6);
        off(clocks("0 5;0 5;0 50;", 3), 1, 3, 4, 6, 5);
        off(clocks("0 5;0 5;0 50;", 3), 2, 6, 4, 51, 6);
    }
}
