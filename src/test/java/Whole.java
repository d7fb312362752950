/**
 * An object in which everything is there that a call could spoil, and all that can be seen of an object: two
 * objects that were made alike, one of which was called once more, show by this whether that call changed anything.
 */
final class Whole {
    /** Number 2 will be gone, 0 thrown; 1 and 3 have stars. */
    static final String SUMMER = "picture 3 4 20 5 1;picture 3 9 40 5 1;picture 30 0 0 0 9;picture 0 7 31 63 2;"
            + "picture 1 2 3 4 5;wish 0 1;size 2;tire 6;bin 2;";
    /** The place of the fault of the latest text, and the bytes that stand on the tape. */
    static final int RICH_FAULT = 4;
    static final int RICH_TAPE = 20;

    private Whole() {
    }

    /** With a fault of the latest text, and bytes on the tape. */
    static SummerPictures rich() {
        SummerPictures x = worked();
        Check.law(x, "1 + ?");
        Check.feed(x, "7 9;");
        return x;
    }

    /** Without a fault, the tape empty. */
    static SummerPictures worked() {
        SummerPictures x = new SummerPictures();
        Check.summer(x, SUMMER);
        Check.law(x, "worth-tired+sharp*star-same*2+looks");
        Check.clocks(x, "10 20;15 24;300 1;");
        Check.work(x, "throw 2;evening;look 0;star 1;");
        x.image();
        Check.work(x, "evening;look 1;throw 0;look 0;look 2;save 3;");
        x.image();
        Check.work(x, "look 3;star 3;rest;star 3;star 2;");
        return x;
    }

    /** Of as many pictures as there may be, with as many works and images as there may be. */
    static SummerPictures full() {
        SummerPictures x = new SummerPictures();
        Check.summer(x, "picture 1 2 3 4 5;".repeat(16));
        for (int i = 0; i < 15; i++) {
            x.work(0);
        }
        x.image();
        x.image();
        Check.work(x, "look 15;star 15;star 15;throw 14;");
        x.image();
        Check.feed(x, "7 9;");
        return x;
    }

    /** All but the texts and the refusals; the images and works are gone from the object then. */
    static String seen(SummerPictures x) {
        StringBuilder s = new StringBuilder("images ").append(x.kept(0)).append(", lines ").append(x.told(8));
        tellPictures(s, x);
        s.append(" people");
        for (int person = 0; person < 6; person++) {
            s.append(' ').append(x.person(person, 0)).append('/').append(x.person(person, 1));
        }
        s.append(" books ").append(x.books(0)).append(' ').append(x.books(2));
        s.append(" clocks ").append(x.off(0, 0)).append(' ').append(x.off(1, 1)).append(' ').append(x.bestOff());
        s.append(" law ").append(x.would(30, 5, 2, 7, 11, 3, 1, 1));
        tellWorks(s, x);
        for (int left = x.restore(); left != -1; left = x.restore()) {
            s.append("\n image, left ").append(left);
            tellWorks(s, x);
        }
        return s.toString();
    }

    private static void tellPictures(StringBuilder s, SummerPictures x) {
        int many = x.told(0);
        s.append(", pictures ").append(many);
        for (int p = firstShown(many); p < many; p++) {
            s.append("\n picture ").append(p).append(':');
            for (int what = 0; what <= 4; what++) {
                s.append(' ').append(x.picture(p, what));
            }
        }
    }

    /** The last five are enough to show a change, and keep an object with all its images below its 512 calls. */
    private static int firstShown(int pictures) {
        return Math.max(0, pictures - 5);
    }

    private static void tellWorks(StringBuilder s, SummerPictures x) {
        s.append("\n works ").append(x.kept(2)).append(", refused ").append(x.told(9)).append(", ").append(state(x));
        for (int left = x.undo(); left != -1; left = x.undo()) {
            s.append("\n undone, left ").append(left).append(", told ").append(x.told(1)).append(' ').append(x.told(5));
        }
    }

    /** All that work changes, but for the works that can be undone and the steps that were refused. */
    static String state(SummerPictures x) {
        StringBuilder s = new StringBuilder("told");
        for (int what = 1; what <= 7; what++) {
            s.append(' ').append(x.told(what));
        }
        s.append(", never looked at ").append(x.told(10));
        int many = x.told(0);
        for (int p = firstShown(many); p < many; p++) {
            s.append("\n picture ").append(p).append(':');
            for (int what = 5; what <= 8; what++) {
                s.append(' ').append(x.picture(p, what));
            }
            s.append(", thought ").append(x.thought(p)).append(", binned ").append(x.binned(p));
        }
        return s.toString();
    }

    /** The latest fault, and what stands on the tape; it is empty then. */
    static String texts(SummerPictures x) {
        StringBuilder s = new StringBuilder("fault ").append(x.fault()).append(", tape ").append(x.kept(1));
        int n = Math.min(4, x.kept(1));
        s.append(", read as clocks ").append(x.clocks(n)).append(' ').append(x.off(0, 1)).append(' ').append(x.fault());
        return s.toString();
    }
}
