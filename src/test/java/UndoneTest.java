import java.util.List;

/** What is kept over calls: the tape, the latest fault, works that can be undone, images, what was refused. */
public final class UndoneTest {
    private static final String THREE = "picture 1 2 30 4 5;picture 6 7 20 9 5;picture 11 2 10 4 5;bin 1;tire 3;";
    private static final int BLANKS = 0x20202020;

    private final Check check = new Check();

    public static void main(String[] args) {
        UndoneTest test = new UndoneTest();
        test.newObject();
        test.tapeFromEmptyToFull();
        test.bytesOfNumbers();
        test.tapeBehindTexts();
        test.faultOfTheLatestText();
        test.undoOfAll();
        test.undoOfNothing();
        test.whatUndoLeaves();
        test.sixteenWorks();
        test.seventeenthWork();
        test.faultsAreNoWorks();
        test.stepsRefusedByTheLatestWork();
        test.threeImages();
        test.imagesOfWorks();
        test.imagesOfNothing();
        test.whatImagesLeave();
        test.anotherSummer();
        test.summersInARow();
        test.lawsAndClocksInARow();
        test.refusalsCounted();
        test.check.end("UndoneTest");
    }

    private Case of(String name, String summer) {
        return new Case(check, name, summer);
    }

    private void newObject() {
        SummerPictures made = new SummerPictures();
        SummerPictures told = new SummerPictures();
        check.due("a summer of no bytes", 0, () -> told.summer(0));
        check.due("a new object is as one of no clauses", 1, () -> Whole.seen(made).equals(Whole.seen(told)) ? 1 : 0);
        check.due("without a fault, the tape empty", 1, () -> Whole.texts(made).equals(Whole.texts(told)) ? 1 : 0);
        check.due("nothing refused", 0, () -> made.status(0) + made.status(1));
        SummerPictures first = new SummerPictures();
        SummerPictures second = new SummerPictures();
        Check.summer(first, THREE);
        Check.work(first, "look 0;");
        first.image();
        Check.feed(first, "1");
        check.due("objects are apart: pictures", 0, () -> second.told(0));
        check.due("objects are apart: tape, works, images", 0, () -> second.kept(0) + second.kept(1) + second.kept(2));
    }

    // ---- the tape ----

    private void tapeFromEmptyToFull() {
        SummerPictures x = new SummerPictures();
        for (int many = 20; many <= 600; many += 20) {
            int bytes = many;
            check.due("feed to " + bytes, bytes, () -> x.feed(BLANKS, BLANKS, BLANKS, BLANKS, BLANKS));
            check.due("kept to " + bytes, bytes, () -> x.kept(1));
        }
        check.due("one more", -1, () -> x.feed('?', '?', '?', '?', '?'));
        check.due("and again", -1, () -> x.feed('?', '?', '?', '?', '?'));
        check.due("it did nothing", 600, () -> x.kept(1));
        check.due("no call was refused", 0, () -> x.status(0) + x.status(1));
        check.due("601 bytes", Check.BAD_ARGUMENT, () -> x.summer(601));
        check.due("all blanks still", 0, () -> x.summer(600));
        check.due("empty", 0, () -> x.kept(1));
        check.due("as at first", 20, () -> x.feed(0, 0, 0, 0, 0));
    }

    /** Each byte of each of the five numbers, in its place. */
    private void bytesOfNumbers() {
        String law = "1+2*3+4*5+6*7-8*9+0 ";
        for (int i = 0; i < 20; i++) {
            SummerPictures x = new SummerPictures();
            Check.feed(x, law.substring(0, i) + '?' + law.substring(i + 1));
            int place = i;
            check.due("a wrong byte " + i, -9, () -> x.law(20));
            check.due("is there", place, () -> x.fault());
        }
        SummerPictures signs = new SummerPictures();
        check.due("numbers below 0", 20, () -> signs.feed(Integer.MIN_VALUE, -1, 0x20202080, BLANKS, 0x20ff2020));
        check.due("are bytes above 127", -9, () -> signs.clocks(20));
        check.due("the first of them", 0, () -> signs.fault());
        signs.feed(BLANKS, BLANKS, 0x20202080, BLANKS, 0x20ff2020);
        check.due("the lowest byte of the third number", -9, () -> signs.clocks(20));
        check.due("is the twelfth", 11, () -> signs.fault());
    }

    private void tapeBehindTexts() {
        for (String kind : List.of("summer", "law", "work", "clocks")) {
            for (int n : new int[] {0, 1, 20}) {
                SummerPictures x = new SummerPictures();
                x.feed(BLANKS, BLANKS, BLANKS, BLANKS, BLANKS);
                check.due(kind + " of " + n, kind.equals("law") ? -9 : 0, () -> read(x, kind, n));
                check.due(kind + " of " + n + " empties the tape", 0, () -> x.kept(1));
                check.due(kind + " of one byte then", Check.BAD_ARGUMENT, () -> read(x, kind, 1));
                check.due(kind + ": feed starts anew", 20, () -> x.feed('?' << 24, 0, 0, 0, 0));
                check.due(kind + " reads what is new", -9, () -> read(x, kind, 1));
                check.due(kind + " at its place", 0, () -> x.fault());
            }
        }
    }

    private static int read(SummerPictures x, String kind, int n) {
        return switch (kind) {
            case "summer" -> x.summer(n);
            case "law" -> x.law(n);
            case "work" -> x.work(n);
            default -> x.clocks(n);
        };
    }

    private void faultOfTheLatestText() {
        for (String kind : List.of("summer", "law", "work", "clocks")) {
            SummerPictures x = new SummerPictures();
            check.due("ahead of any text", -1, () -> x.fault());
            Check.feed(x, "  1000 ? ");
            boolean isNumberDue = kind.equals("law") || kind.equals("clocks");
            int place = 2;
            check.due(kind + " with a fault", isNumberDue ? -8 : -9, () -> read(x, kind, 9));
            check.due(kind + ": its place", place, () -> x.fault());
            check.due("a refused text", Check.BAD_ARGUMENT, () -> read(x, kind, 1));
            check.due(kind + ": stays behind a refused text", place, () -> x.fault());
            x.undo();
            x.restore();
            x.image();
            Check.feed(x, "?");
            check.due(kind + ": stays behind all else", place, () -> x.fault());
            check.due(kind + ": another", 1, () -> {
                read(x, kind, 1);
                return x.fault() == 0 ? 1 : 0;
            });
            check.due(kind + ": none, by an empty text of another kind", -1, () -> {
                x.clocks(0);
                return x.fault();
            });
        }
    }

    // ---- undo ----

    private void undoOfAll() {
        Case one = of("undo", THREE);
        String[] states = new String[17];
        String[] works = {"look 0;", "star 0;", "throw 1;", "evening;", "save 1;", "rest;", "", "look 2;look 2;",
            "throw 0;", "save 0;", "throw 2;", "look 2;", "evening;look 0;", "again 20[look 0;];", "rest;star 0;", "evening;"};
        for (int i = 0; i < 16; i++) {
            states[i] = one.state();
            String steps = works[i];
            one.due("work " + i, 1, x -> Check.work(x, steps) >= 0 ? 1 : 0).kept(2, i + 1);
        }
        for (int i = 15; i >= 0; i--) {
            one.undo(i).as(states[i]).kept(2, i).told(9, 0);
        }
        one.undo(-1).undo(-1).as(states[0]).kept(2, 0).work("look 0;", 1, 0).kept(2, 1).undo(0).as(states[0]);
    }

    private void undoOfNothing() {
        SummerPictures x = new SummerPictures();
        check.due("of a new object", -1, () -> x.undo());
        check.due("nothing is refused by it", 0, () -> x.status(0) + x.status(1));
        of("behind a summer", THREE).undo(-1).summer(THREE, 3).undo(-1);
        of("of a work without steps", THREE).work("", 0).kept(2, 1).undo(0).undo(-1);
        of("of a work that was refused whole", THREE).work("save 0;rest;", 0, 2).undo(0).told(9, 0).undo(-1);
    }

    private void whatUndoLeaves() {
        Case one = of("undo leaves", THREE).work("look 0;", 1).law("5").clocks("3 4;5 6;", 2).image(1);
        one.due("a fault", -9, x -> Check.law(x, "1+?")).due("fed", 20, x -> Check.feed(x, "7 9;"));
        one.due("a refusal", Check.BAD_ARGUMENT, x -> x.told(11)).due("another", Check.NO_ELEMENT, x -> x.thought(3));
        one.undo(0).due("the law", 5, x -> x.thought(0)).told(8, 2).kept(0, 1).kept(1, 20).refused(1, 1);
        one.due("the fault", 2, x -> x.fault()).due("the tape", 1, x -> x.clocks(4)).restore(0).told(1, 1);
    }

    private void sixteenWorks() {
        Case full = full("sixteen").kept(2, 16);
        full.undo(15).work("look 0;", 1, 0).kept(2, 16);
        full.undo(15).undo(14).work("", 0).work("", 0).due("a 17th", -20, x -> x.work(0));
        full.summer(THREE, 3).work("", 0).kept(2, 1);
    }

    private Case full(String name) {
        Case full = of(name, THREE).work("look 0;save 1;save 2;", 1, 2);
        for (int i = 2; i <= 15; i++) {
            full.work("", 0);
        }
        return full.work("star 0;star 0;star 0;", 1, 2);
    }

    private void seventeenthWork() {
        for (String text : List.of("", "look 1;", "rest;", "look 3;", "?", "again 1[".repeat(7))) {
            Case full = full("a 17th, '" + text + "'");
            full.due("a fault", -9, x -> Check.law(x, "1+?")).due("its place", 2, x -> x.fault());
            String before = full.state();
            full.work(text, -20, 2).as(before).kept(1, 0).kept(2, 16).refused(0, 0);
            full.due("there is no fault", -1, x -> x.fault()).undo(15).told(9, 0);
        }
        Case wrong = full("n goes ahead").due("fed", 160, x -> Check.feed(x, "?".repeat(160)));
        wrong.due("a fault stays", -1, x -> x.fault());
        for (int n : new int[] {-1, 151, 161}) {
            wrong.due("n " + n, Check.BAD_ARGUMENT, x -> x.work(n)).kept(1, 160);
        }
        wrong.refused(0, 3).due("n 150", -20, x -> x.work(150)).kept(1, 0).refused(0, 3);
    }

    private void faultsAreNoWorks() {
        Case one = of("faults", THREE).work("look 0;save 1;", 1, 1);
        String before = one.state();
        one.work("look 1;?", -9, 1).work("look 1;look 3;", -8, 1).work("again 1[".repeat(7), -7, 1);
        one.as(before).kept(2, 1).undo(0).undo(-1).told(1, 0);
    }

    private void stepsRefusedByTheLatestWork() {
        Case one = of("refused", THREE).told(9, 0).undo(-1).told(9, 0).work("save 0;save 1;", 0, 2).image(1).told(9, 2);
        one.law("1").clocks("1 2;", 1).told(9, 2).due("a fault", -9, x -> Check.summer(x, "?")).told(9, 2);
        one.due("a refusal", Check.BAD_ARGUMENT, x -> x.work(1)).told(9, 2);
        one.work("look 0;", 1, 0).work("save 0;", 0, 1).undo(2).told(9, 0).work("save 0;", 0, 1).restore(0).told(9, 0);
        one.work("save 0;rest;save 0;", 0, 3).restore(-1).told(9, 3).work("", 0, 0);
        one.work("save 0;", 0, 1).summer("", 0).told(9, 0);
    }

    // ---- images ----

    private void threeImages() {
        Case one = of("images", THREE).kept(0, 0).restore(-1);
        String[] states = new String[4];
        for (int i = 0; i < 3; i++) {
            states[i] = one.state();
            one.image(i + 1).kept(0, i + 1).as(states[i]);
            one.due("work", 1, x -> Check.work(x, "look 0;star 1;throw 2;evening;look 1;") > 0 ? 1 : 0);
        }
        states[3] = one.state();
        one.image(-1).image(-1).kept(0, 3).as(states[3]).refused(0, 0);
        for (int i = 2; i >= 0; i--) {
            one.restore(i).kept(0, i).as(states[i]).kept(2, i);
        }
        one.restore(-1).restore(-1).as(states[0]).kept(0, 0).refused(0, 0);
        one.work("look 0;", 1).image(1).work("look 1;", 1).restore(0).told(1, 1).image(1).image(2).image(3).image(-1);
        one.restore(2).image(3).image(-1);
    }

    private void imagesOfWorks() {
        Case one = of("works in an image", THREE).work("look 0;", 1).work("look 1;", 1).image(1);
        one.undo(1).undo(0).undo(-1).work("throw 0;", 1).kept(2, 1).restore(0).kept(2, 2).told(1, 2).told(4, 3);
        one.undo(1).told(1, 1).undo(0).told(1, 0).undo(-1);
        Case full = full("sixteen in an image").image(1);
        for (int left = 15; left >= 0; left--) {
            full.undo(left);
        }
        full.work("look 2;", 1).restore(0).kept(2, 16).due("a 17th", -20, x -> x.work(0)).undo(15);
        Case none = full("none in an image").image(1).undo(15).image(2).undo(14);
        none.restore(1).kept(2, 15).restore(0).kept(2, 16).undo(15).undo(14);
        of("ahead of any work", THREE).image(1).work("look 0;", 1).restore(0).kept(2, 0).undo(-1).told(1, 0);
        of("two alike", THREE).work("look 0;", 1).image(1).image(2).work("look 0;", 1).restore(1).told(1, 1)
                .work("look 1;", 1).restore(0).told(1, 1).undo(0).told(1, 0);
    }

    private void imagesOfNothing() {
        of("without pictures", "").image(1).work("evening;", 1).restore(0).told(3, 0);
        Case one = of("restore of none", THREE).work("look 0;save 0;", 1, 1);
        String before = one.state();
        one.restore(-1).as(before).told(9, 1).kept(2, 1).kept(0, 0).undo(0);
    }

    /** An image is of what work changes alone. */
    private void whatImagesLeave() {
        Case one = of("images leave", THREE).image(1).law("5").clocks("3 4;5 6;", 2);
        one.due("a fault", -9, x -> Check.law(x, "1+?")).due("fed", 20, x -> Check.feed(x, "7 9;"));
        one.due("a refusal", Check.BAD_ARGUMENT, x -> x.told(11)).due("another", Check.NO_ELEMENT, x -> x.thought(3));
        one.restore(0).due("the law", 5, x -> x.thought(0)).told(8, 2).kept(1, 20).refused(1, 1);
        one.due("the fault", 2, x -> x.fault()).due("the tape", 1, x -> x.clocks(4)).told(8, 1);
    }

    // ---- another summer ----

    private void anotherSummer() {
        Case one = of("another summer", THREE).work("look 0;star 1;throw 2;save 1;", 3, 1).image(1).image(2).image(3);
        one.law("5").clocks("1 90;", 1).due("a refusal", Check.BAD_ARGUMENT, x -> x.told(11));
        String before = one.state();
        one.summer("picture 1 2 3 4 5;size 9;", -8).as(before).kept(0, 3).kept(2, 1).told(0, 3).told(8, 1).told(9, 1);
        one.due("the law stays", 5, x -> x.thought(0)).due("the clocks stay", 88, x -> x.bestOff());
        one.summer("", 0).kept(0, 0).kept(2, 0).told(0, 0).told(8, 0).told(9, 0).restore(-1).undo(-1).image(1);
        one.due("no law", 3, x -> x.would(7, 0, 0, 0, 4, 0, 0, 0)).due("no clocks", 0, x -> x.bestOff());
        one.due("no wish, size 4", 0, x -> x.books(0)).refused(0, 1);
    }

    /** Whatever was told ahead, with a fault or not: a clause that does not stand in the latest summer is not there. */
    private void summersInARow() {
        String rich = "picture 9 9 40 63 9;".repeat(6) + "wish 0 1;wish 1 2;wish 5 8;size 1;tire 9;bin 30;";
        String plain = "picture 1 2 3 0 0;picture 1 2 3 0 1;picture 1 2 3 0 2;picture 1 2 3 0 3;";
        for (String[] ahead : new String[][] {{rich}, {rich, rich}, {rich, ""}, {"", rich}, {rich + "?"}, {rich, rich + "?"},
            {rich, rich + "bin 0"}, {rich + "?", rich + "?"}, {rich + "picture 9 9 9 63", ""}, {rich + "wish 2"}}) {
            Case one = of("behind " + ahead.length + " summers", "");
            for (String text : ahead) {
                one.due("ahead", 1, x -> Check.summer(x, text) > -10 ? 1 : 0);
            }
            one.summer(plain, 4).told(0, 4).due("size", 1, x -> x.books(0)).due("value", 12, x -> x.books(1));
            for (int person = 0; person < 6; person++) {
                int p = person;
                one.due("wish " + p, 0, x -> x.person(p, 0)).due("on it " + p, 0, x -> x.person(p, 1));
            }
            one.due("missing", 0, x -> x.missing()).due("no picture 4", Check.NO_ELEMENT, x -> x.picture(4, 0));
            one.due("days", 0, x -> x.day(9, 0)).due("scenes", 0, x -> x.scene(9, 0)).due("heaps", 4, x -> x.heaps(0));
            one.work("look 0;throw 0;", 2).told(2, 1).due("bin", 3, x -> x.binned(0));
        }
    }

    /** Likewise of laws and clocks: the latest without a fault is there, and nothing of those ahead of it. */
    private void lawsAndClocksInARow() {
        Case one = of("laws", THREE).law("1+2+3").law("50").due("the second", 50, x -> x.thought(0)).law("worth+1");
        one.due("the third", 31, x -> x.thought(0)).due("a fault", -9, x -> Check.law(x, "7+7+7+")).due("stays", 31,
                x -> x.thought(0)).law("2").due("the fifth", 2, x -> x.thought(0));
        one.due("two faults", -8, x -> Check.law(x, "1000")).due("two faults", -7, x -> Check.law(x, "(".repeat(7)));
        one.due("stays", 2, x -> x.thought(0)).summer(THREE, 3).due("no law", 30, x -> x.thought(0)).law("8");
        one.due("the latest", 8, x -> x.thought(0));
        Case lines = of("clocks", THREE).clocks("0 1;0 2;0 3;", 3).clocks("5 10;", 1).told(8, 1).due("best", 4,
                x -> x.bestOff()).clocks("5 4;5 4;5 1", -9).told(8, 1).due("stays", 4, x -> x.bestOff());
        lines.clocks("7 9;8 10;", 2).due("best", 1, x -> x.bestOff()).due("fits", 3, x -> x.off(0, 0)).clocks("1 1000;", -8);
        lines.clocks("50 40;", 1).told(8, 1).due("best", -9, x -> x.bestOff()).clocks("", 0).told(8, 0);
        lines.clocks("0 1;".repeat(11), -7).told(8, 0).due("none", 199, x -> x.off(0, 0)).summer(THREE, 3).told(8, 0);
    }

    private void refusalsCounted() {
        Case one = of("refusals", THREE).refused(0, 0);
        for (int i = 1; i <= 40; i++) {
            one.due("a picture", Check.NO_ELEMENT, x -> x.picture(3, 0)).due("a what", Check.BAD_ARGUMENT, x -> x.told(-1));
        }
        one.refused(40, 40).due("both are wrong", Check.NO_ELEMENT, x -> x.picture(-1, -1)).refused(41, 40);
        one.due("others", -1, x -> x.status(2)).due("others", -1, x -> x.status(-1)).refused(41, 40);
        one.due("others", -1, x -> x.kept(3)).due("others", -1, x -> x.kept(-1)).refused(41, 40);
        one.image(1).due("a third", Check.BAD_ARGUMENT, x -> x.strict(17)).restore(0).refused(41, 41);
        one.work("look 0;", 1).due("one more", Check.NO_ELEMENT, x -> x.cost(6)).undo(0).refused(42, 41);
        one.summer("", 0).refused(42, 41).summer("?", -9).refused(42, 41).work("save 9;", -8).refused(42, 41);
    }
}
