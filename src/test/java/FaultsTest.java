/** The faults of texts: which one, and where. A text stands with what is due: the answer and the place. */
public final class FaultsTest {
    private final Check check = new Check();

    public static void main(String[] args) {
        FaultsTest test = new FaultsTest();
        test.summers();
        test.summersWithTooMany();
        test.laws();
        test.lawsTooDeep();
        test.works();
        test.worksTooDeep();
        test.clocks();
        test.check.end("FaultsTest");
    }

    private void fault(String kind, String text, int answer, int place) {
        SummerPictures x = new SummerPictures();
        if (!kind.equals("summer")) {
            Check.summer(x, "picture 0 0 0 0 0;picture 0 0 0 0 0;");
        }
        check.due(kind + " '" + text + "'", answer, () -> switch (kind) {
            case "summer" -> Check.summer(x, text);
            case "law" -> Check.law(x, text);
            case "work" -> Check.work(x, text);
            default -> Check.clocks(x, text);
        });
        check.due(kind + " '" + text + "', place", place, () -> x.fault());
        check.due(kind + " '" + text + "', the tape is empty", 0, () -> x.kept(1));
    }

    private void summers() {
        fault("summer", "pict 0 0 0 0 0;", -9, 0);
        fault("summer", "Picture 0 0 0 0 0;", -9, 0);
        fault("summer", ";", -9, 0);
        fault("summer", "bin 1;;", -9, 6);
        fault("summer", "bin 1;  7", -9, 8);
        fault("summer", "\tbin 1;", -9, 0);
        fault("summer", "bin 1;" + (char) 0, -9, 6);
        fault("summer", "bin 1;" + (char) 255, -9, 6);
        fault("summer", "bin 1;" + (char) 160, -9, 6);
        fault("summer", "bin 1; bin", -9, 10);
        fault("summer", "bin 1; bin   ", -9, 13);
        fault("summer", "bin 1  ", -9, 7);
        fault("summer", "bin one;", -9, 4);
        fault("summer", "bin -1;", -9, 4);
        fault("summer", "bin 1 2;", -9, 6);
        fault("summer", "bin 12a;", -9, 6);
        fault("summer", "bin  31;", -8, 5);
        fault("summer", "bin 4294967297;", -8, 4);
        fault("summer", "bin 18446744073709551617;", -8, 4);
        fault("summer", "bin 0000000000000000000000000000000031;", -8, 4);
        fault("summer", "tire 9;tire 10", -8, 12);
        fault("summer", "size 9", -8, 5);
        fault("summer", "wish 5 8;wish 6 9;", -8, 14);
        fault("summer", "wish 5 8;wish 5 9;", -8, 16);
        fault("summer", "wish 5;", -9, 6);
        fault("summer", "picture 30 9 40 63 9;picture 30 9 40 63;", -9, 39);
        fault("summer", "picture 30 9 40 63 9 0;", -9, 21);
        fault("summer", "picture 30,9;", -9, 10);
        fault("summer", "picture 31 x", -8, 8);
        fault("summer", "picture 30 10 x", -8, 11);
        fault("summer", "picture 30 9 41 x", -8, 13);
        fault("summer", "picture 30 9 40 64 x", -8, 16);
        fault("summer", "picture 30 9 40 63 10;", -8, 19);
        fault("summer", "bin 0;", -8, 4);
        fault("summer", "size 8;tire 0;bin 30;size 0;tire 9;bin 1;", 0, -1);
    }

    private void summersWithTooMany() {
        String sixteen = "picture 1 1 1 1 1;".repeat(16);
        fault("summer", sixteen + " picture 99", -7, 289);
        fault("summer", sixteen + "pictures", -9, 288);
        fault("summer", sixteen + "bin 1;", 16, -1);
        String sixty = "bin 1;".repeat(60);
        fault("summer", sixty + "  ", 0, -1);
        fault("summer", sixty + "  size", -7, 362);
        fault("summer", sixty + "picture 1 1 1 1 1;", -7, 360);
        fault("summer", sixty + "sizes", -9, 360);
        fault("summer", sixty + "7", -9, 360);
    }

    private void laws() {
        fault("law", "", -9, 0);
        fault("law", "   ", -9, 3);
        fault("law", "1 2", -9, 2);
        fault("law", "1 2000", -9, 2);
        fault("law", "1 worth", -9, 2);
        fault("law", "worth2", -9, 5);
        fault("law", "worthy", -9, 0);
        fault("law", "wort", -9, 0);
        fault("law", "1+", -9, 2);
        fault("law", "1 + + 1", -9, 4);
        fault("law", "-1", -9, 0);
        fault("law", "1;", -9, 1);
        fault("law", "1 * 1000 + ?", -8, 4);
        fault("law", "1 * ? + 1000", -9, 4);
        fault("law", "(1", -9, 2);
        fault("law", "(1]", -9, 2);
        fault("law", "()", -9, 1);
        fault("law", "1)", -9, 1);
        fault("law", "least(1,2)", -9, 5);
        fault("law", "least", -9, 5);
        fault("law", "least[1,2", -9, 9);
        fault("law", "least[1,2)", -9, 9);
        fault("law", "least[1,2,3]", -9, 9);
        fault("law", "least[1]", -9, 7);
        fault("law", "most[,1]", -9, 5);
        fault("law", "most[1,]", -9, 7);
        fault("law", "most[1000,]", -8, 5);
        fault("law", "  worth  ", 1, -1);
        fault("law", "000000000000000000000000000999", 1, -1);
        fault("law", "looks+same*star/people-day", 1, -1);
    }

    private void lawsTooDeep() {
        fault("law", "((((((1))))))+((((((1))))))", 1, -1);
        fault("law", "((((((1)))))) + (((((((1)))))))", -7, 22);
        fault("law", "least[most[(least[most[(1),1],1]),1],1]", 1, -1);
        fault("law", "least[1,most[1,(least[1,most[1,(1)]])]]", 1, -1);
        fault("law", "least[most[(least[most[((1),1],1]),1],1]", -7, 24);
        fault("law", "((((((least", -7, 6);
        fault("law", "((((((  most[1,1]))))))", -7, 8);
        fault("law", "((((((mosts", -9, 6);
        fault("law", "((((((1000", -8, 6);
    }

    private void works() {
        fault("work", "look", -9, 4);
        fault("work", "look ;", -9, 5);
        fault("work", "look 1", -9, 6);
        fault("work", "look 2;", -8, 5);
        fault("work", "star 1;star 2", -8, 12);
        fault("work", "throw 99999999999;", -8, 6);
        fault("work", "save 2", -8, 5);
        fault("work", "looks 1;", -9, 0);
        fault("work", "rest 1;", -9, 5);
        fault("work", "rest;;", -9, 5);
        fault("work", "evening", -9, 7);
        fault("work", "]", -9, 0);
        fault("work", "rest;];", -9, 5);
        fault("work", "again", -9, 5);
        fault("work", "again [];", -9, 6);
        fault("work", "again 21", -8, 6);
        fault("work", "again 2;", -9, 7);
        fault("work", "again 2[", -9, 8);
        fault("work", "again 2[rest];", -9, 12);
        fault("work", "again 2[rest;]", -9, 14);
        fault("work", "again 2[rest;]rest;", -9, 14);
        fault("work", "again 2[rest;;];", -9, 13);
        fault("work", "again 2[look 2;];", -8, 13);
        fault("work", "again 20 [ ] ; ", 0, -1);
        fault("work", " look 1 ; star1;throw01;save 1;evening;", 5, -1);
    }

    private void worksTooDeep() {
        fault("work", "again 1[".repeat(6) + "look 0;" + "];".repeat(6), 1, -1);
        fault("work", "again 1[".repeat(6) + " again", -7, 49);
        fault("work", "again 1[".repeat(6) + "agains", -9, 48);
        fault("work", "again 1[".repeat(6) + "];again 1[];" + "];".repeat(5) + "again 1[];", 0, -1);
        fault("work", "again 1[".repeat(6) + "];again 1[again 1[];];", -7, 58);
        SummerPictures x = new SummerPictures();
        check.due("no picture, no number", -8, () -> Check.work(x, "look 0;"));
    }

    private void clocks() {
        fault("clock", "1", -9, 1);
        fault("clock", "1;", -9, 1);
        fault("clock", "1 2", -9, 3);
        fault("clock", "1 2 3;", -9, 4);
        fault("clock", "12;", -9, 2);
        fault("clock", "a 2;", -9, 0);
        fault("clock", "1 2;;", -9, 4);
        fault("clock", "1 2; 1000 a", -8, 5);
        fault("clock", "999 1000;", -8, 4);
        fault("clock", "1 2;".repeat(10) + "  ", 10, -1);
        fault("clock", "1 2;".repeat(10) + " 5", -7, 41);
        fault("clock", "1 2;".repeat(10) + "1000 1;", -8, 40);
        fault("clock", "1 2;".repeat(10) + ";", -9, 40);
    }
}
