import java.util.List;

/** How WORK is done: each step when it can just be done and when it can't, and how many are begun. */
public final class WorkEdgesTest {
    private static final int KEPT = 0;
    private static final int THROWN = 1;
    private static final int GONE = 2;

    /** Of two scenes: 0, 1, 2 and 3, 4. */
    private static final String FIVE = "picture 0 0 40 0 1;picture 0 0 39 0 1;picture 0 0 38 0 1;picture 0 0 37 0 2;"
            + "picture 0 0 36 0 2;";
    /** A hundred evenings, in 80 bytes. */
    private static final String HUNDRED = "again 10[" + "evening;".repeat(10) + "];";

    private final Check check = new Check();

    public static void main(String[] args) {
        WorkEdgesTest test = new WorkEdgesTest();
        test.atFirst();
        test.inOrder();
        test.refusedStepsChangeNothing();
        test.stepsThatCanJustBeDone();
        test.whatIsAnswered();
        test.twoHundredSteps();
        test.againsAreBegunToo();
        test.looks();
        test.manyLooks();
        test.tiredOfLooks();
        test.rests();
        test.stars();
        test.evenings();
        test.lastEvenings();
        test.binsOfManyEvenings();
        test.thrownAnew();
        test.binned();
        test.check.end("WorkEdgesTest");
    }

    private Case of(String name, String summer) {
        return new Case(check, name, summer);
    }

    // ---- at first ----

    private void atFirst() {
        for (int many : new int[] {0, 1, 16}) {
            Case first = of("at first, of " + many, "picture 1 2 3 4 5;".repeat(many));
            checkFirst(first, many);
            if (many > 0) {
                first.work("look 0;star 0;look 0;throw 0;evening;look 0;save 0;throw 0;evening;rest;look 0;", 10, 1);
                first.image(1).summer("picture 1 2 3 4 5;".repeat(many), many);
                checkFirst(first, many);
            }
        }
    }

    private void checkFirst(Case first, int many) {
        first.told(0, many).told(4, many).told(10, many);
        for (int what : new int[] {1, 2, 3, 5, 6, 7, 8, 9}) {
            first.told(what, 0);
        }
        for (int p : many == 0 ? new int[0] : new int[] {0, many - 1}) {
            first.picture(p, 5, KEPT).picture(p, 6, 0).picture(p, 7, -1).picture(p, 8, 0);
            first.due("binned " + p, -1, x -> x.binned(p)).due("thought " + p, 3, x -> x.thought(p));
        }
        first.kept(0, 0).kept(2, 0).undo(-1).restore(-1);
    }

    private void inOrder() {
        of("star, throw", FIVE).work("star 0;throw 0;", 2, 0).told(7, 0).picture(0, 5, THROWN);
        of("throw, star", FIVE).work("throw 0;star 0;", 1, 1).told(7, 0).picture(0, 5, THROWN);
        of("throw, save, star", FIVE).work("throw 0;save 0;star 0;", 3, 0).told(7, 1).picture(0, 5, KEPT);
        of("again in order", FIVE).work("again 2[look 0;rest;look 1;];evening;look 2;", 8, 0).told(2, 1)
                .picture(0, 7, 39).picture(1, 7, 38).picture(2, 7, 38);
        of("behind a refused one", FIVE).work("save 0;look 0;save 0;look 1;", 2, 2).told(1, 2);
    }

    // ---- refused, and just not refused ----

    /** 0 is kept, 1 has a star, 2 is thrown, 3 is gone; one is not tired. */
    private Case mixed(String name) {
        return of(name, FIVE + "bin 2;").work("look 3;throw 3;evening;look 2;throw 2;star 1;look 1;evening;", 8, 0)
                .picture(0, 5, KEPT).picture(1, 6, 1).picture(2, 5, THROWN).picture(3, 5, GONE).told(2, 0);
    }

    private void refusedStepsChangeNothing() {
        for (String step : List.of("look 3;", "star 1;", "star 2;", "star 3;", "throw 2;", "throw 3;", "save 0;",
                "save 1;", "save 3;", "rest;")) {
            Case mixed = mixed("refused: " + step);
            String before = mixed.state();
            mixed.work(step, 0, 1).as(before).kept(2, 2).refused(0, 0);
            mixed.work(step + "again 3[" + step + "];", 0, 4).as(before).undo(2).as(before);
        }
        Case late = of("refused: evening", FIVE + "bin 1;").work(HUNDRED, 100).work(HUNDRED, 100);
        late.work("look 0;star 1;throw 2;", 3, 0);
        String before = late.state();
        late.work("evening;", 0, 1).as(before).work(HUNDRED, 0, 100).as(before).told(2, 1).told(3, 200);
    }

    private void stepsThatCanJustBeDone() {
        mixed("look at one that is kept").work("look 0;", 1, 0).picture(0, 8, 1).told(1, 4).told(2, 1);
        mixed("look at one with a star").work("look 1;", 1, 0).picture(1, 8, 2).picture(1, 6, 1);
        mixed("look at one that is thrown").work("look 2;", 1, 0).picture(2, 8, 2).picture(2, 5, THROWN);
        mixed("star").work("star 0;", 1, 0).picture(0, 6, 1).told(7, 2);
        mixed("throw").work("throw 0;", 1, 0).picture(0, 5, THROWN).told(4, 2).told(5, 2).told(7, 1);
        mixed("throw one with a star").work("throw 1;", 1, 0).picture(1, 5, THROWN).picture(1, 6, 0).told(7, 0);
        mixed("save").work("save 2;", 1, 0).picture(2, 5, KEPT).told(4, 4).told(5, 0).told(6, 1);
        mixed("rest").work("look 0;rest;", 2, 0).told(2, 0);
        mixed("evening").work("evening;", 1, 0).told(3, 3).picture(2, 5, GONE).told(6, 2);
    }

    private void whatIsAnswered() {
        Case two = of("answers", FIVE);
        two.work("", 0, 0).work("again 20[];", 0, 0).work("again 0[look 0;];", 0, 0).told(1, 0);
        two.work("again 1[again 2[look 0;save 0;];];", 2, 2).told(1, 2);
        two.work("save 0;save 1;", 0, 2).work("star 0;", 1, 0);
        two.kept(2, 6).due("no call was refused", 0, x -> x.status(0) + x.status(1));
    }

    // ---- how many are begun ----

    private void twoHundredSteps() {
        // 1 and 19 times 10: 191 are begun, all but the again refused.
        String many = "again 19[" + "rest;".repeat(10) + "];";
        of("the 199th", FIVE).work(many + "rest;".repeat(7) + "look 0;", 1, 197);
        of("the 200th", FIVE).work(many + "rest;".repeat(8) + "look 0;", 1, 198);
        of("the 201st", FIVE).work(many + "rest;".repeat(9) + "look 0;", 0, 199).told(1, 0);
        of("done ones", FIVE + "tire 0;").work("again 20[" + "look 0;".repeat(10) + "];look 1;", 199, 0)
                .told(1, 199).picture(1, 8, 0);
        of("each work has its own", FIVE).work(many + "rest;".repeat(10), 0, 199).work("look 0;", 1, 0)
                .work(many + "rest;".repeat(8) + "look 0;", 2, 197);
    }

    private void againsAreBegunToo() {
        String many = "again 19[" + "rest;".repeat(10) + "];";
        of("an again is the 200th", FIVE).work(many + "rest;".repeat(8) + "again 2[look 0;];", 0, 198);
        of("an again is the 199th", FIVE).work(many + "rest;".repeat(7) + "again 2[look 0;];", 1, 197);
        of("an again is the 198th", FIVE).work(many + "rest;".repeat(6) + "again 2[look 0;];look 0;", 2, 196);
        // 0 times is come to all the same: ten are begun each time.
        String zeros = "again 19[again 0[look 1;];" + "rest;".repeat(9) + "];";
        of("agains of 0", FIVE).work(zeros + "rest;".repeat(8) + "look 0;", 1, 179);
        of("agains of 0, one more", FIVE).work(zeros + "rest;".repeat(9) + "look 0;", 0, 180);
        of("empty agains", FIVE).work("again 19[again 20[];" + "rest;".repeat(9) + "];" + "rest;".repeat(8) + "look 0;",
                1, 179);
        of("an again each time", FIVE).work("again 20[again 20[rest;];];look 0;", 0, 189);
        of("six of 20", FIVE).work("again 20[".repeat(6) + "rest;" + "];".repeat(6) + "look 0;", 0, 185);
        of("six of 20, nothing inside", FIVE).work("again 20[".repeat(6) + "];".repeat(6) + "look 0;", 0, 0);
        // 1 and 20 times 1 and 8: 181, so 19 are left.
        of("inner ones", FIVE).work("again 20[again 8[look 0;];];again 20[star 0;];", 161, 17);
    }

    // ---- each step ----

    private void looks() {
        of("ahead of being counted", FIVE).law("looks*10+same").work("look 0;look 1;look 3;look 0;look 4;", 5, 0)
                .picture(0, 7, 32).picture(1, 7, 11).picture(3, 7, 20).picture(4, 7, 41);
        of("ahead of being tired", FIVE + "tire 9;").law("tired").work("look 0;look 1;look 2;", 3, 0)
                .picture(0, 7, 0).picture(1, 7, 9).picture(2, 7, 18).told(2, 27);
        of("with and without a star", FIVE).law("star+1").work("look 0;star 0;look 1;star 1;look 1;throw 1;", 6, 0)
                .picture(0, 7, 1).picture(1, 7, 2).work("look 1;look 0;", 2).picture(1, 7, 1).picture(0, 7, 2);
        of("one that is thrown counts", FIVE).work("throw 0;look 0;look 0;", 3, 0).told(1, 2).told(2, 2).told(10, 4)
                .picture(0, 8, 2).picture(0, 7, 39).law("same").due("same", 2, x -> x.thought(1));
        of("what was thought stays", FIVE).work("look 0;", 1).law("7").picture(0, 7, 40).work("look 0;", 1)
                .picture(0, 7, 7);
        of("0 at least", FIVE).law("0-1").work("look 0;", 1).picture(0, 7, 0);
        of("99 at most", FIVE).law("100").work("look 0;", 1).picture(0, 7, 99);
    }

    /** Looks and same go on beyond what would() takes. */
    private void manyLooks() {
        Case many = of("many looks", FIVE + "tire 0;");
        for (int i = 1; i <= 16; i++) {
            many.work("again 20[" + "look 0;".repeat(10) + "];", 199, 0);
        }
        many.told(1, 3184).picture(0, 8, 3184).law("looks/100").due("looks", 31, x -> x.thought(4));
        many.law("same/100").due("same", 31, x -> x.thought(1)).due("same of another", 0, x -> x.thought(4));
    }

    private void tiredOfLooks() {
        of("tire 9: 99", FIVE + "tire 9;").work("again 10[look 0;];", 10).told(2, 90).work("look 0;", 1).told(2, 99)
                .work("look 0;", 1, 0).told(2, 99);
        of("tire 7: 98", FIVE + "tire 7;").work("again 14[look 0;];", 14).told(2, 98).work("look 0;", 1).told(2, 99);
        of("tire 1", FIVE + "tire 1;").work("again 14[again 7[look 0;];];", 98).told(2, 98).work("look 0;", 1)
                .told(2, 99).work("look 0;", 1).told(2, 99);
        of("tire 0", FIVE + "tire 0;").work("again 20[look 0;];rest;", 20, 1).told(2, 0);
        of("it stays over works", FIVE + "tire 5;").work("look 0;", 1).work("look 0;", 1).told(2, 10);
    }

    private void rests() {
        Case tired = of("rests", FIVE + "tire 9;").work("again 11[look 0;];", 11).told(2, 99);
        for (int left : new int[] {49, 24, 12, 6, 3, 1, 0}) {
            tired.work("rest;", 1, 0).told(2, left);
        }
        tired.work("rest;", 0, 1).told(2, 0).told(1, 11);
    }

    private void stars() {
        Case stars = of("stars", FIVE).work("star 0;star 4;", 2, 0).told(7, 2);
        stars.work("throw 0;save 0;", 2).picture(0, 6, 0).told(7, 1);
        stars.work("star 0;", 1, 0).told(7, 2).work("star 0;", 0, 1);
        stars.work("again 4[evening;];", 4).told(7, 2).picture(0, 6, 1);
        of("all have stars", "picture 0 0 0 0 0;".repeat(16)).work("star 0;star 1;star 2;star 3;star 4;star 5;star 6;"
                + "star 7;star 8;star 9;star 10;star 11;star 12;star 13;star 14;star 15;", 16).told(7, 16);
    }

    // ---- evenings ----

    private void evenings() {
        Case first = of("evening", FIVE + "tire 9;").work("look 0;star 1;evening;", 3, 0);
        first.told(2, 0).told(3, 1).told(7, 1).told(1, 1).picture(0, 7, 40).picture(0, 8, 1).told(4, 5);
        of("without pictures", "").work("evening;rest;", 1, 1).told(3, 1);
        of("199 and one", "").work(HUNDRED, 100).work(HUNDRED + "again 0[];", 100).told(3, 200);
        of("to 199", "").work(HUNDRED, 100).work("again 11[again 9[evening;];];", 99, 0).told(3, 199)
                .work("evening;", 1, 0).told(3, 200).work("evening;", 0, 1).told(3, 200);
    }

    private void lastEvenings() {
        String ninetyNine = "again 11[again 9[evening;];];";
        Case last = of("thrown at 199, bin 1", FIVE + "bin 1;").work(HUNDRED, 100).work(ninetyNine, 99);
        last.work("throw 0;evening;", 2, 0).picture(0, 5, GONE).told(3, 200);
        last.work("throw 1;evening;evening;", 1, 2).picture(1, 5, THROWN).due("binned", 1, x -> x.binned(1));
        last.work("look 1;save 1;", 2, 0).picture(1, 5, KEPT);
        of("thrown at 199, bin 2", FIVE + "bin 2;").work(HUNDRED, 100).work(ninetyNine, 99)
                .work("throw 0;evening;evening;", 2, 1).picture(0, 5, THROWN).due("binned", 1, x -> x.binned(0));
        of("thrown at 0, bin 1", FIVE + "bin 1;").work("throw 0;", 1).work(HUNDRED, 100).picture(0, 5, GONE);
    }

    private void binsOfManyEvenings() {
        for (int bin : new int[] {1, 2, 3, 29, 30}) {
            Case one = of("bin " + bin, FIVE + "bin " + bin + ";").work("evening;throw 0;", 2);
            one.work(someEvenings(bin - 1), bin - 1, 0).picture(0, 5, THROWN).due("binned", 1, x -> x.binned(0)).told(6, 0);
            one.work("evening;", 1, 0).picture(0, 5, GONE).due("binned", -1, x -> x.binned(0)).told(6, 1);
            one.work("save 0;look 0;star 0;throw 0;", 0, 4).undo(3).undo(2).picture(0, 5, THROWN);
        }
        of("bin 3 without", FIVE).work("throw 0;evening;evening;", 3).picture(0, 5, THROWN).work("evening;", 1)
                .picture(0, 5, GONE);
    }

    private void thrownAnew() {
        of("saved in time", FIVE + "bin 2;").work("throw 0;evening;save 0;evening;evening;", 5, 0).picture(0, 5, KEPT);
        of("saved and thrown: anew", FIVE + "bin 2;").work("throw 0;evening;save 0;throw 0;evening;", 5, 0)
                .picture(0, 5, THROWN).work("evening;", 1).picture(0, 5, GONE);
        of("thrown twice: not anew", FIVE + "bin 2;").work("throw 0;evening;throw 0;evening;", 3, 1)
                .picture(0, 5, GONE);
        of("looked at: not anew", FIVE + "bin 2;").work("throw 0;evening;look 0;evening;", 4, 0).picture(0, 5, GONE);
        of("one behind the other", FIVE + "bin 2;").work("throw 0;evening;throw 1;throw 2;evening;", 5, 0).told(6, 1)
                .told(5, 2).told(4, 2).work("evening;", 1).told(6, 3).told(5, 0).told(4, 2);
        String all = "throw 0;throw 1;throw 2;throw 3;throw 4;throw 5;throw 6;throw 7;throw 8;throw 9;throw 10;throw 11;"
                + "throw 12;throw 13;throw 14;throw 15;";
        of("all sixteen", "picture 0 0 0 0 0;".repeat(16) + "bin 1;").work(all, 16, 0).told(5, 16).told(4, 0)
                .work("evening;", 1).told(6, 16).told(5, 0).told(10, 16);
    }

    private void binned() {
        for (int gone = 0; gone < 30; gone++) {
            int left = 30 - gone;
            of("binned", FIVE + "bin 30;").due("kept", -1, x -> x.binned(0)).work("evening;throw 0;", 2)
                    .work(someEvenings(gone), gone, 0).due("behind " + gone, left, x -> x.binned(0))
                    .due("another", -1, x -> x.binned(4)).due("no picture 5", Check.NO_ELEMENT, x -> x.binned(5));
        }
        Case late = of("beyond 200", FIVE + "bin 30;").work(HUNDRED, 100).work("again 19[again 5[evening;];];", 95);
        late.work("throw 0;", 1).due("at 195", 30, x -> x.binned(0)).work("again 4[evening;];throw 1;evening;", 6, 0);
        late.told(3, 200).due("at 200", 25, x -> x.binned(0)).due("thrown at 199", 29, x -> x.binned(1));
        late.work("evening;throw 2;", 1, 1).due("none comes", 25, x -> x.binned(0)).due("at 200", 30, x -> x.binned(2));
    }

    private static String someEvenings(int many) {
        return "again " + Math.min(20, many) + "[evening;];again " + Math.max(0, many - 20) + "[evening;];";
    }
}
