import java.util.NoSuchElementException;

/** A summer's pictures: told, looked at, thrown, kept, and put in a book. */
public final class SummerPictures {
    public static final int NONE = -1;

    private static final int TAPE_BYTES = 600;
    private static final int BYTES_A_FEED = 20;
    private static final int SHORT_TEXT = 150;
    private static final int CLOCK_TEXT = 100;
    private static final int MOST_CLAUSES = 60;
    private static final int MOST_PICTURES = 16;
    private static final int MOST_LINES = 10;
    private static final int MOST_OPEN = 6;
    private static final int MOST_BEGUN = 200;
    private static final int MOST_WORKS = 16;
    private static final int MOST_IMAGES = 3;
    private static final int MOST_EVENINGS = 200;
    private static final int MOST_IN_ORDER = 6;
    private static final int PEOPLE = 6;
    private static final int SCENES = 10;
    private static final int LAST_DAY = 30;
    private static final int MOST_WORTH = 40;
    private static final int MOST_SHARP = 9;
    private static final int HIGHEST = 99;
    private static final int WIDEST_OFF = 99;
    private static final int NO_OFF = -100;
    private static final int TOO_MANY_WORKS = -20;
    private static final int NO_BOOK_EITHER_WAY = -2;

    private static final int FAULT_SIGN = 1;
    private static final int FAULT_NUMBER = 2;
    private static final int FAULT_MANY = 3;
    private static final int FAULT_SHIFT = 10;

    private final Tape tape = new Tape();
    private final Plan plan = new Plan();
    private final BookSearch search = new BookSearch();
    private final LookOrder row = new LookOrder();
    private final Desk trial = new Desk();
    private final Desk[] images = new Desk[MOST_IMAGES];
    private Album album = new Album();
    private Album spareAlbum = new Album();
    private Rule rule = new Rule();
    private Rule spareRule = new Rule();
    private ClockLines lines = new ClockLines();
    private ClockLines spareLines = new ClockLines();
    private Desk desk = new Desk();
    private int imageCount;
    private int refusedSteps;
    private int unknownCalls;
    private int wrongCalls;

    public SummerPictures() {
        rule.setDefault();
    }

    // ---- texts ----

    public int feed(int a, int b, int c, int d, int e) {
        if (tape.size + BYTES_A_FEED > TAPE_BYTES) {
            return NONE;
        }
        tape.put(a);
        tape.put(b);
        tape.put(c);
        tape.put(d);
        tape.put(e);
        return tape.size;
    }

    public int summer(int n) throws IllegalArgumentException {
        requireArgument(n >= 0 && n <= tape.size);
        tape.open(n);
        if (!spareAlbum.read(tape)) {
            return tape.faultKind - FAULT_SHIFT;
        }
        Album old = album;
        album = spareAlbum;
        spareAlbum = old;
        rule.setDefault();
        lines.clear();
        desk = new Desk();
        desk.begin(album.count);
        refusedSteps = 0;
        dropImages();
        return album.count;
    }

    public int law(int n) throws IllegalArgumentException {
        requireArgument(n >= 0 && n <= SHORT_TEXT && n <= tape.size);
        tape.open(n);
        if (!spareRule.read(tape)) {
            return tape.faultKind - FAULT_SHIFT;
        }
        Rule old = rule;
        rule = spareRule;
        spareRule = old;
        return 1;
    }

    public int work(int n) throws IllegalArgumentException {
        requireArgument(n >= 0 && n <= SHORT_TEXT && n <= tape.size);
        if (desk.works >= MOST_WORKS) {
            tape.open(0);
            return TOO_MANY_WORKS;
        }
        tape.open(n);
        if (!plan.read(tape, album.count)) {
            return tape.faultKind - FAULT_SHIFT;
        }
        Desk next = new Desk();
        next.copyFrom(desk);
        next.before = desk;
        next.works = desk.works + 1;
        desk = next;
        plan.perform(desk, album, rule);
        refusedSteps = plan.refused;
        return plan.done;
    }

    public int clocks(int n) throws IllegalArgumentException {
        requireArgument(n >= 0 && n <= CLOCK_TEXT && n <= tape.size);
        tape.open(n);
        if (!spareLines.read(tape)) {
            return tape.faultKind - FAULT_SHIFT;
        }
        ClockLines old = lines;
        lines = spareLines;
        spareLines = old;
        return lines.count;
    }

    public int fault() {
        return tape.faultPlace;
    }

    public int undo() {
        if (desk.before == null) {
            return -1;
        }
        desk = desk.before;
        refusedSteps = 0;
        return desk.works;
    }

    // ---- what is told ----

    public int told(int what) throws IllegalArgumentException {
        requireArgument(what >= 0 && what <= 10);
        switch (what) {
            case 0:
                return album.count;
            case 1:
                return desk.looked;
            case 2:
                return desk.tired;
            case 3:
                return desk.evenings;
            case 4:
                return Integer.bitCount(desk.keptBits);
            case 5:
                return Integer.bitCount(desk.thrownBits);
            case 6:
                return Integer.bitCount(desk.goneBits(album.allBits()));
            case 7:
                return Integer.bitCount(desk.starBits);
            case 8:
                return lines.count;
            case 9:
                return refusedSteps;
            default:
                return desk.unseen(album.count);
        }
    }

    public int picture(int picture, int what) throws NoSuchElementException, IllegalArgumentException {
        requirePicture(picture);
        requireArgument(what >= 0 && what <= 8);
        switch (what) {
            case 0:
                return album.days[picture];
            case 1:
                return album.sharps[picture];
            case 2:
                return album.worths[picture];
            case 3:
                return album.crowds[picture];
            case 4:
                return album.scenes[picture];
            case 5:
                return desk.placeOf(picture);
            case 6:
                return bitOf(desk.starBits, picture);
            case 7:
                return desk.opinions[picture];
            default:
                return desk.seen[picture];
        }
    }

    public int person(int person, int what) throws NoSuchElementException, IllegalArgumentException {
        requirePerson(person);
        requireArgument(what == 0 || what == 1);
        return what == 0 ? album.wishes[person] : Integer.bitCount(keptWith(person));
    }

    public int thought(int picture) throws NoSuchElementException {
        requirePicture(picture);
        desk.tellFacts(picture, album, rule);
        return rule.think();
    }

    public int would(int worth, int sharp, int people, int day, int tired, int looks, int same, int star)
            throws IllegalArgumentException {
        requireArgument(within(worth, 0, MOST_WORTH) && within(sharp, 0, MOST_SHARP)
                && within(people, 0, PEOPLE) && within(day, 0, LAST_DAY)
                && within(tired, 0, HIGHEST) && within(looks, 0, 999)
                && within(same, 0, 999) && within(star, 0, 1));
        rule.tellShot(worth, sharp, people, day);
        rule.tellMood(tired, looks, same, star);
        return rule.think();
    }

    public int favourite() {
        return album.firstGreatest(keptAndSeen(), desk.opinions);
    }

    // ---- the book ----

    public int books(int what) throws IllegalArgumentException {
        requireArgument(within(what, 0, 2));
        search.searchAll(album, desk.keptBits, NONE);
        if (what == 0) {
            return search.found;
        }
        return what == 1 ? search.bestValue : search.bestBits;
    }

    public int cost(int person) throws NoSuchElementException {
        requirePerson(person);
        search.searchAll(album, desk.keptBits, NONE);
        boolean isNow = search.found > 0;
        int valueNow = search.bestValue;
        search.searchAll(album, desk.keptBits, person);
        if (search.found == 0) {
            return NO_BOOK_EITHER_WAY;
        }
        return isNow ? search.bestValue - valueNow : NONE;
    }

    public int swap(int pictures, int what) throws IllegalArgumentException {
        requireSet(pictures);
        requireArgument(within(what, 0, 2));
        int bestOut = NONE;
        int bestIn = NONE;
        int bestGain = 0;
        for (int out = 0; out < album.count; out++) {
            for (int in = 0; in < album.count; in++) {
                boolean fits = isIn(pictures, out) && isIn(desk.keptBits & ~pictures, in);
                int gain = album.sharps[in] - album.sharps[out];
                if (fits && (bestOut == NONE || gain > bestGain)) {
                    bestOut = out;
                    bestIn = in;
                    bestGain = gain;
                }
            }
        }
        if (bestOut == NONE || what == 0) {
            return bestOut;
        }
        return what == 1 ? bestIn : album.sumOf(pictures, album.sharps) + bestGain;
    }

    public boolean isBook(int pictures) throws IllegalArgumentException {
        requireSet(pictures);
        return (pictures & ~desk.keptBits) == 0
                && Integer.bitCount(pictures) == album.bookSize
                && album.areScenesApart(pictures)
                && album.areWishesMet(pictures, NONE);
    }

    public int heaps(int what) throws IllegalArgumentException {
        requireArgument(within(what, 0, 2));
        int count = 0;
        int greatest = 0;
        int seen = 0;
        for (int p = 0; p < album.count; p++) {
            if (!isIn(seen, p) && isIn(desk.keptBits, p)) {
                int heap = album.alike(p) & desk.keptBits;
                seen |= heap;
                count++;
                greatest = Math.max(greatest, Integer.bitCount(heap));
            }
        }
        if (what == 0) {
            return count;
        }
        return what == 1 ? greatest : Integer.bitCount(desk.keptBits) - count;
    }

    public int doubles(int picture) throws NoSuchElementException {
        requirePicture(picture);
        return isIn(desk.keptBits, picture) ? album.alike(picture) & desk.keptBits : 0;
    }

    // ---- odds ----

    public long line(int n, int r, int part) throws IllegalArgumentException {
        requireArgument(within(n, 1, 12) && within(r, 0, n - 1) && within(part, 0, 1));
        return Odds.inLeastTerms(Odds.lineShares(n, r), n * Odds.LINE_SHARES, part);
    }

    public int leave(int n) throws IllegalArgumentException {
        requireArgument(within(n, 1, 12));
        int best = 0;
        for (int r = 1; r < n; r++) {
            if (Odds.lineShares(n, r) > Odds.lineShares(n, best)) {
                best = r;
            }
        }
        return best;
    }

    public long knock(int n, int q, int part) throws IllegalArgumentException {
        requireArgument(within(n, 1, 64) && within(q, 0, 16) && within(part, 0, 1));
        int rounds = Odds.rounds(n);
        return Odds.inLeastTerms(Odds.power(q, rounds), Odds.power(16, rounds), part);
    }

    public long often(int m, int q, int part) throws IllegalArgumentException {
        requireArgument(within(m, 1, 9) && m % 2 == 1 && within(q, 0, 16) && within(part, 0, 1));
        return Odds.inLeastTerms(Odds.mostTimes(m, q), Odds.power(16, m), part);
    }

    public int order(int pictures) throws IllegalArgumentException {
        requireRow(pictures);
        row.arrange(pictures, desk, album, rule);
        return row.leastLost();
    }

    public int ordered(int pictures, int place) throws IllegalArgumentException {
        requireRow(pictures);
        requireArgument(place >= 0);
        row.arrange(pictures, desk, album, rule);
        return row.pictureAt(place);
    }

    public int off(int e, int what) throws IllegalArgumentException {
        requireArgument(within(e, 0, MOST_LINES) && within(what, 0, 3));
        int fits = lines.countFits(e);
        switch (what) {
            case 0:
                return fits;
            case 1:
                return lines.fitAt(e, 0);
            case 2:
                return lines.fitAt(e, fits - 1);
            default:
                return lines.fitAt(e, (fits - 1) / 2);
        }
    }

    public int bestOff() {
        return lines.bestFit();
    }

    public long eyes(int x, int q, int n, int part) throws IllegalArgumentException {
        requireArgument(within(x, 0, 3) && within(q, 0, 16) && within(n, 0, 5) && within(part, 0, 1));
        return Odds.inLeastTerms(Odds.eyesOpen(x, q, n), Odds.power(16, x * n), part);
    }

    public int need(int x, int q, int c) throws IllegalArgumentException {
        requireArgument(within(x, 0, 2) && within(q, 0, 16) && within(c, 0, 16));
        for (int n = 0; n <= 7; n++) {
            if (16 * Odds.eyesOpen(x, q, n) >= c * Odds.power(16, x * n)) {
                return n;
            }
        }
        return NONE;
    }

    // ---- days, people, scenes ----

    public int day(int day, int what) throws IllegalArgumentException {
        requireArgument(within(day, 0, LAST_DAY) && within(what, 0, 1));
        int bits = album.those(album.days, day) & desk.keptBits;
        return what == 0 ? Integer.bitCount(bits) : album.firstGreatest(bits, album.worths);
    }

    public int together(int person, int other, int what)
            throws NoSuchElementException, IllegalArgumentException {
        requirePerson(person);
        requirePerson(other);
        requireArgument(within(what, 0, 1));
        if (what == 0) {
            return Integer.bitCount(keptWith(person) & keptWith(other));
        }
        return album.those(album.crowds, 1 << person | 1 << other) & desk.keptBits;
    }

    public int missing() {
        int bits = 0;
        for (int x = 0; x < PEOPLE; x++) {
            if (Integer.bitCount(keptWith(x)) < album.wishes[x]) {
                bits |= 1 << x;
            }
        }
        return bits;
    }

    public int strict(int n) throws IllegalArgumentException {
        requireArgument(within(n, 0, MOST_PICTURES));
        for (int b = 0; b <= HIGHEST; b++) {
            if (countThought(b) <= n) {
                return b;
            }
        }
        return HIGHEST + 1;
    }

    public int binned(int picture) throws NoSuchElementException {
        requirePicture(picture);
        if (!isIn(desk.thrownBits, picture)) {
            return NONE;
        }
        return desk.thrownAt[picture] + album.bin - desk.evenings;
    }

    public int scene(int scene, int what) throws IllegalArgumentException {
        requireArgument(within(scene, 0, SCENES - 1) && within(what, 0, 1));
        int bits = album.those(album.scenes, scene) & desk.keptBits;
        return what == 0 ? Integer.bitCount(bits) : album.firstGreatest(bits, album.sharps);
    }

    public int friend(int person, int what) throws NoSuchElementException, IllegalArgumentException {
        requirePerson(person);
        requireArgument(within(what, 0, 1));
        int best = NONE;
        int most = 0;
        for (int x = 0; x < PEOPLE; x++) {
            int shared = Integer.bitCount(keptWith(person) & keptWith(x));
            if (x != person && shared > most) {
                best = x;
                most = shared;
            }
        }
        return what == 0 || best == NONE ? best : most;
    }

    // ---- summers by seeds ----

    public int goesOn(int seed, int looks, int q, int b, int what) throws IllegalArgumentException {
        requireChances(looks, q, b);
        requireArgument(within(what, 0, 3));
        trial.copyFrom(desk);
        int rests = trial.drift(seed, looks, q, b, album, rule);
        switch (what) {
            case 0:
                return Integer.bitCount(trial.keptBits);
            case 1:
                return trial.tired;
            case 2:
                return rests;
            default:
                return album.sumOf(trial.keptBits, album.worths);
        }
    }

    public int span(int seed, int many, int looks, int q, int b, int what, int picture)
            throws IllegalArgumentException {
        requireChances(looks, q, b);
        requireArgument(within(many, 1, 20) && within(what, 0, 2) && within(picture, 0, album.count - 1));
        int fewest = MOST_PICTURES;
        int most = 0;
        int times = 0;
        for (int i = 0; i < many; i++) {
            trial.copyFrom(desk);
            trial.drift(seed + i, looks, q, b, album, rule);
            int left = Integer.bitCount(trial.keptBits);
            fewest = Math.min(fewest, left);
            most = Math.max(most, left);
            times += bitOf(trial.keptBits, picture);
        }
        if (what == 0) {
            return fewest;
        }
        return what == 1 ? most : times;
    }

    // ---- images, counts ----

    public int image() {
        if (imageCount >= MOST_IMAGES) {
            return -1;
        }
        images[imageCount] = desk;
        imageCount++;
        return imageCount;
    }

    public int restore() {
        if (imageCount <= 0) {
            return -1;
        }
        imageCount--;
        if (images[imageCount] != null) {
            desk = images[imageCount];
        }
        images[imageCount] = null;
        refusedSteps = 0;
        return imageCount;
    }

    public int status(int what) {
        if (what == 0) {
            return unknownCalls;
        }
        return what == 1 ? wrongCalls : NONE;
    }

    public int kept(int what) {
        switch (what) {
            case 0:
                return imageCount;
            case 1:
                return tape.size;
            case 2:
                return desk.works;
            default:
                return NONE;
        }
    }

    // ---- refusals ----

    private void requireArgument(boolean isGood) {
        if (!isGood) {
            wrongCalls++;
            throw new IllegalArgumentException("no such argument");
        }
    }

    private void requirePicture(int p) {
        if (p < 0 || p >= album.count) {
            unknownCalls++;
            throw new NoSuchElementException("no such picture");
        }
    }

    private void requirePerson(int x) {
        if (x < 0 || x >= PEOPLE) {
            unknownCalls++;
            throw new NoSuchElementException("no such person");
        }
    }

    private void requireSet(int bits) {
        requireArgument((bits & ~album.allBits()) == 0);
    }

    private void requireRow(int bits) {
        requireSet(bits);
        requireArgument(Integer.bitCount(bits) <= MOST_IN_ORDER
                && (bits & desk.goneBits(album.allBits())) == 0);
    }

    private void requireChances(int looks, int q, int b) {
        requireArgument(within(looks, 1, 60) && within(q, 0, 16) && within(b, 0, HIGHEST));
    }

    // ---- small questions ----

    private static boolean within(int number, int least, int most) {
        return number >= least && number <= most;
    }

    private static int bitOf(int bits, int place) {
        return bits >> place & 1;
    }

    private static boolean isIn(int bits, int place) {
        return (bits >> place & 1) == 1;
    }

    private int keptWith(int person) {
        return album.shown[person] & desk.keptBits;
    }

    private int keptAndSeen() {
        int bits = 0;
        for (int p = 0; p < album.count; p++) {
            bits |= desk.seen[p] > 0 ? 1 << p : 0;
        }
        return bits & desk.keptBits;
    }

    private int countThought(int least) {
        int bits = keptAndSeen();
        int count = 0;
        for (int p = 0; p < album.count; p++) {
            count += isIn(bits, p) && desk.opinions[p] >= least ? 1 : 0;
        }
        return count;
    }

    private void dropImages() {
        imageCount = 0;
        for (int i = 0; i < MOST_IMAGES; i++) {
            images[i] = null;
        }
    }

    /**
     * The bytes that were fed, and the reading of one text from them. The first fault stays: behind it
     * every reading does nothing, so that the readers of texts need not look after each piece.
     */
    private static final class Tape {
        private final byte[] bytes = new byte[TAPE_BYTES];
        private int size;
        private int length;
        private int at;
        private int pieceAt;
        private int faultKind;
        private int faultPlace = NONE;

        void put(int number) {
            for (int shift = 24; shift >= 0; shift -= 8) {
                if (size < bytes.length) {
                    bytes[size] = (byte) (number >> shift);
                    size++;
                }
            }
        }

        /** The bytes stay readable, though the tape counts as empty from here on. */
        void open(int n) {
            length = Math.min(n, bytes.length);
            size = 0;
            at = 0;
            pieceAt = 0;
            faultKind = 0;
            faultPlace = NONE;
        }

        boolean isSound() {
            return faultKind == 0;
        }

        void fail(int kind, int place) {
            if (faultKind == 0) {
                faultKind = kind;
                faultPlace = place;
            }
        }

        /** What was looked for does not stand at the place that the latest look reached. */
        void failHere() {
            fail(FAULT_SIGN, at);
        }

        /** The byte that comes next, behind blanks; NONE at the end, and behind a fault. */
        private int peek() {
            while (at < length && bytes[at] == ' ') {
                at++;
            }
            return faultKind == 0 && at < length ? bytes[at] & 255 : NONE;
        }

        boolean hasMore() {
            return peek() != NONE;
        }

        boolean isAtDigit() {
            return isDigit(peek());
        }

        boolean isAtLetter() {
            return isLetter(peek());
        }

        boolean takeSign(char sign) {
            if (peek() != sign) {
                return false;
            }
            pieceAt = at;
            at++;
            return true;
        }

        void requireSign(char sign) {
            if (peek() == sign) {
                at++;
            } else {
                fail(FAULT_SIGN, at);
            }
        }

        int takeNumber(int least, int most) {
            if (!isDigit(peek())) {
                failHere();
                return NONE;
            }
            pieceAt = at;
            int number = 0;
            while (at < length && isDigit(bytes[at])) {
                // A number this large is none such anywhere; more digits would only wrap it.
                if (number < 100000) {
                    number = number * 10 + bytes[at] - '0';
                }
                at++;
            }
            if (number < least || number > most) {
                fail(FAULT_NUMBER, pieceAt);
                return NONE;
            }
            return number;
        }

        /** Takes the letters that stand there; if none do, the piece is empty and is no word. */
        void takeWord() {
            peek();
            pieceAt = at;
            while (at < length && isLetter(bytes[at])) {
                at++;
            }
        }

        boolean isWord(String word) {
            if (at - pieceAt != word.length()) {
                return false;
            }
            for (int i = 0; i < word.length() && pieceAt + i < length; i++) {
                if (bytes[pieceAt + i] != word.charAt(i)) {
                    return false;
                }
            }
            return true;
        }

        private static boolean isDigit(int sign) {
            return sign >= '0' && sign <= '9';
        }

        private static boolean isLetter(int sign) {
            return sign >= 'a' && sign <= 'z';
        }
    }

    /** A summer as it was told: its pictures, the wishes, and how it is gone about. */
    private static final class Album {
        private static final int NO_CLAUSE = 0;
        private static final int PICTURE = 1;
        private static final int WISH = 2;
        private static final int SIZE = 3;
        private static final int TIRE = 4;
        private static final int BIN = 5;

        private final int[] days = new int[MOST_PICTURES];
        private final int[] sharps = new int[MOST_PICTURES];
        private final int[] worths = new int[MOST_PICTURES];
        private final int[] crowds = new int[MOST_PICTURES];
        private final int[] scenes = new int[MOST_PICTURES];
        private final int[] wishes = new int[PEOPLE];
        /** Of each person the pictures that show him, as bits. */
        private final int[] shown = new int[PEOPLE];
        private int count;
        private int bookSize = 4;
        private int tire = 1;
        private int bin = 3;

        boolean read(Tape tape) {
            clear();
            for (int i = 0; i <= MOST_CLAUSES && tape.hasMore(); i++) {
                readClause(tape, i == MOST_CLAUSES);
            }
            return tape.isSound();
        }

        private void clear() {
            count = 0;
            bookSize = 4;
            tire = 1;
            bin = 3;
            for (int x = 0; x < PEOPLE; x++) {
                wishes[x] = 0;
                shown[x] = 0;
            }
        }

        private void readClause(Tape tape, boolean isTooMany) {
            tape.takeWord();
            int kind = clauseKind(tape);
            if (kind == NO_CLAUSE) {
                tape.fail(FAULT_SIGN, tape.pieceAt);
            } else if (isTooMany || kind == PICTURE && count >= MOST_PICTURES) {
                tape.fail(FAULT_MANY, tape.pieceAt);
            } else {
                readParts(tape, kind);
                tape.requireSign(';');
            }
        }

        private static int clauseKind(Tape tape) {
            if (tape.isWord("picture")) {
                return PICTURE;
            }
            if (tape.isWord("wish")) {
                return WISH;
            }
            if (tape.isWord("size")) {
                return SIZE;
            }
            if (tape.isWord("tire")) {
                return TIRE;
            }
            return tape.isWord("bin") ? BIN : NO_CLAUSE;
        }

        private void readParts(Tape tape, int kind) {
            switch (kind) {
                case PICTURE:
                    readPicture(tape);
                    break;
                case WISH:
                    readWish(tape);
                    break;
                case SIZE:
                    bookSize = tape.takeNumber(0, 8);
                    break;
                case TIRE:
                    tire = tape.takeNumber(0, 9);
                    break;
                default:
                    bin = tape.takeNumber(1, 30);
                    break;
            }
        }

        private void readPicture(Tape tape) {
            days[count] = tape.takeNumber(0, LAST_DAY);
            sharps[count] = tape.takeNumber(0, MOST_SHARP);
            worths[count] = tape.takeNumber(0, MOST_WORTH);
            crowds[count] = tape.takeNumber(0, (1 << PEOPLE) - 1);
            scenes[count] = tape.takeNumber(0, SCENES - 1);
            for (int x = 0; x < PEOPLE; x++) {
                shown[x] |= bitOf(crowds[count], x) << count;
            }
            count++;
        }

        private void readWish(Tape tape) {
            int person = tape.takeNumber(0, PEOPLE - 1);
            int times = tape.takeNumber(0, 8);
            if (person >= 0 && person < PEOPLE) {
                wishes[person] = times;
            }
        }

        int allBits() {
            return (1 << count) - 1;
        }

        /** Those pictures of which one of the rows above says this value, kept or not. */
        int those(int[] values, int value) {
            int bits = 0;
            for (int p = 0; p < count; p++) {
                bits |= values[p] == value ? 1 << p : 0;
            }
            return bits;
        }

        /** Those of one scene with just the same people, kept or not. */
        int alike(int picture) {
            return those(scenes, scenes[picture]) & those(crowds, crowds[picture]);
        }

        int sumOf(int bits, int[] values) {
            int sum = 0;
            for (int p = 0; p < count; p++) {
                sum += isIn(bits, p) ? values[p] : 0;
            }
            return sum;
        }

        int firstGreatest(int bits, int[] values) {
            int best = NONE;
            for (int p = 0; p < count; p++) {
                if (isIn(bits, p) && (best == NONE || values[p] > values[best])) {
                    best = p;
                }
            }
            return best;
        }

        boolean areScenesApart(int bits) {
            int used = 0;
            for (int p = 0; p < count; p++) {
                if (isIn(bits, p) && isIn(used, scenes[p])) {
                    return false;
                }
                used |= isIn(bits, p) ? 1 << scenes[p] : 0;
            }
            return true;
        }

        /** The wish for the one who is waived counts as 0. */
        boolean areWishesMet(int bits, int waived) {
            for (int x = 0; x < PEOPLE; x++) {
                if (x != waived && Integer.bitCount(shown[x] & bits) < wishes[x]) {
                    return false;
                }
            }
            return true;
        }
    }

    /** A law, turned so that each sign stands behind its two values: numbers from 0 on, all else below 0. */
    private static final class Rule {
        private static final int FACTS = 8;
        private static final int NO_SIGN = 0;
        private static final int PLUS = -11;
        private static final int MINUS = -12;
        private static final int TIMES = -13;
        private static final int OVER = -14;
        private static final int LEAST = -15;
        private static final int MOST = -16;

        private final int[] facts = new int[FACTS];
        private final int[] code = new int[SHORT_TEXT];
        private final int[] stack = new int[SHORT_TEXT];
        private int size;

        void setDefault() {
            size = 0;
            put(factCode(0));
            put(factCode(4));
            put(MINUS);
        }

        boolean read(Tape tape) {
            size = 0;
            readSum(tape, 0);
            if (tape.hasMore()) {
                tape.failHere();
            }
            return tape.isSound();
        }

        private static int factCode(int fact) {
            return -1 - fact;
        }

        private void put(int piece) {
            if (size < code.length) {
                code[size] = piece;
                size++;
            }
        }

        private void readSum(Tape tape, int open) {
            readProduct(tape, open);
            for (int i = 0; i < SHORT_TEXT && tape.isSound(); i++) {
                int sign = tape.takeSign('+') ? PLUS : tape.takeSign('-') ? MINUS : NO_SIGN;
                if (sign == NO_SIGN) {
                    return;
                }
                readProduct(tape, open);
                put(sign);
            }
        }

        private void readProduct(Tape tape, int open) {
            readUnit(tape, open);
            for (int i = 0; i < SHORT_TEXT && tape.isSound(); i++) {
                int sign = tape.takeSign('*') ? TIMES : tape.takeSign('/') ? OVER : NO_SIGN;
                if (sign == NO_SIGN) {
                    return;
                }
                readUnit(tape, open);
                put(sign);
            }
        }

        private void readUnit(Tape tape, int open) {
            if (tape.isAtDigit()) {
                put(tape.takeNumber(0, 999));
            } else if (tape.takeSign('(')) {
                readInside(tape, open);
            } else {
                tape.takeWord();
                int fact = factNamed(tape);
                if (fact != NONE) {
                    put(factCode(fact));
                } else if (tape.isWord("least")) {
                    readPair(tape, open, LEAST);
                } else if (tape.isWord("most")) {
                    readPair(tape, open, MOST);
                } else {
                    tape.fail(FAULT_SIGN, tape.pieceAt);
                }
            }
        }

        private void readInside(Tape tape, int open) {
            if (open >= MOST_OPEN) {
                tape.fail(FAULT_MANY, tape.pieceAt);
                return;
            }
            readSum(tape, open + 1);
            tape.requireSign(')');
        }

        private void readPair(Tape tape, int open, int sign) {
            if (open >= MOST_OPEN) {
                tape.fail(FAULT_MANY, tape.pieceAt);
                return;
            }
            tape.requireSign('[');
            if (tape.isSound()) {
                readSum(tape, open + 1);
            }
            tape.requireSign(',');
            if (tape.isSound()) {
                readSum(tape, open + 1);
            }
            tape.requireSign(']');
            put(sign);
        }

        private static int factNamed(Tape tape) {
            if (tape.isWord("worth")) {
                return 0;
            }
            if (tape.isWord("sharp")) {
                return 1;
            }
            if (tape.isWord("people")) {
                return 2;
            }
            if (tape.isWord("day")) {
                return 3;
            }
            if (tape.isWord("tired")) {
                return 4;
            }
            if (tape.isWord("looks")) {
                return 5;
            }
            if (tape.isWord("same")) {
                return 6;
            }
            return tape.isWord("star") ? 7 : NONE;
        }

        void tellShot(int worth, int sharp, int people, int day) {
            facts[0] = worth;
            facts[1] = sharp;
            facts[2] = people;
            facts[3] = day;
        }

        void tellMood(int tired, int looks, int same, int star) {
            facts[4] = tired;
            facts[5] = looks;
            facts[6] = same;
            facts[7] = star;
        }

        int think() {
            int top = 0;
            for (int i = 0; i < size; i++) {
                int piece = code[i];
                if (piece >= 0 && top < stack.length) {
                    stack[top] = piece;
                    top++;
                } else if (piece < 0 && piece >= -FACTS && top < stack.length) {
                    stack[top] = facts[-1 - piece];
                    top++;
                } else if (top >= 2) {
                    top--;
                    stack[top - 1] = join(piece, stack[top - 1], stack[top]);
                }
            }
            int out = stack[0];
            return out < 0 ? 0 : out > HIGHEST ? HIGHEST : out;
        }

        private static int join(int sign, int a, int b) {
            switch (sign) {
                case PLUS:
                    return a + b;
                case MINUS:
                    return a - b;
                case TIMES:
                    return a * b;
                case OVER:
                    return b == 0 ? 0 : a / b;
                case LEAST:
                    return a < b ? a : b;
                default:
                    return a > b ? a : b;
            }
        }
    }

    /** All that work changes; a desk that has works behind it knows the one ahead of the latest work. */
    private static final class Desk {
        private final int[] opinions = new int[MOST_PICTURES];
        private final int[] seen = new int[MOST_PICTURES];
        private final int[] thrownAt = new int[MOST_PICTURES];
        private final int[] sceneSeen = new int[SCENES];
        private int keptBits;
        private int thrownBits;
        private int starBits;
        private int tired;
        private int looked;
        private int evenings;
        private int works;
        private Desk before;

        void begin(int pictures) {
            keptBits = (1 << pictures) - 1;
            for (int p = 0; p < MOST_PICTURES; p++) {
                opinions[p] = NONE;
            }
        }

        void copyFrom(Desk other) {
            System.arraycopy(other.opinions, 0, opinions, 0, MOST_PICTURES);
            System.arraycopy(other.seen, 0, seen, 0, MOST_PICTURES);
            System.arraycopy(other.thrownAt, 0, thrownAt, 0, MOST_PICTURES);
            System.arraycopy(other.sceneSeen, 0, sceneSeen, 0, SCENES);
            keptBits = other.keptBits;
            thrownBits = other.thrownBits;
            starBits = other.starBits;
            tired = other.tired;
            looked = other.looked;
            evenings = other.evenings;
        }

        int goneBits(int allBits) {
            return allBits & ~keptBits & ~thrownBits;
        }

        int placeOf(int p) {
            if (isIn(keptBits, p)) {
                return 0;
            }
            return isIn(thrownBits, p) ? 1 : 2;
        }

        int unseen(int pictures) {
            int count = 0;
            for (int p = 0; p < pictures; p++) {
                count += seen[p] == 0 ? 1 : 0;
            }
            return count;
        }

        void tellFacts(int p, Album album, Rule rule) {
            rule.tellShot(album.worths[p], album.sharps[p], Integer.bitCount(album.crowds[p]), album.days[p]);
            rule.tellMood(tired, looked, sceneSeen[album.scenes[p]], bitOf(starBits, p));
        }

        boolean lookAt(int p, Album album, Rule rule) {
            if (placeOf(p) == 2) {
                return false;
            }
            tellFacts(p, album, rule);
            opinions[p] = rule.think();
            seen[p]++;
            sceneSeen[album.scenes[p]]++;
            looked++;
            tired = Math.min(HIGHEST, tired + album.tire);
            return true;
        }

        boolean giveStar(int p) {
            if (!isIn(keptBits, p) || isIn(starBits, p)) {
                return false;
            }
            starBits |= 1 << p;
            return true;
        }

        boolean throwOut(int p) {
            if (!isIn(keptBits, p)) {
                return false;
            }
            keptBits &= ~(1 << p);
            thrownBits |= 1 << p;
            starBits &= ~(1 << p);
            thrownAt[p] = evenings;
            return true;
        }

        boolean takeBack(int p) {
            if (!isIn(thrownBits, p)) {
                return false;
            }
            thrownBits &= ~(1 << p);
            keptBits |= 1 << p;
            return true;
        }

        boolean takeRest() {
            if (tired == 0) {
                return false;
            }
            tired = tired / 2;
            return true;
        }

        boolean passEvening(int bin) {
            if (evenings >= MOST_EVENINGS) {
                return false;
            }
            evenings++;
            tired = 0;
            for (int p = 0; p < MOST_PICTURES; p++) {
                if (isIn(thrownBits, p) && evenings - thrownAt[p] >= bin) {
                    thrownBits &= ~(1 << p);
                }
            }
            return true;
        }

        /** A summer by a seed, on this very desk: how often one rested. */
        int drift(int seed, int times, int q, int b, Album album, Rule rule) {
            int rests = 0;
            int now = seed;
            for (int i = 0; i < times && keptBits != 0; i++) {
                now = nextSeed(now);
                int p = keptPicture(drawn(now) % Math.max(1, Integer.bitCount(keptBits)));
                lookAt(p, album, rule);
                now = nextSeed(now);
                if (drawn(now) % 16 < q && takeRest()) {
                    rests++;
                }
                if (opinions[p] < b) {
                    throwOut(p);
                }
            }
            return rests;
        }

        private static int nextSeed(int seed) {
            return seed * 1103515245 + 12345;
        }

        private static int drawn(int seed) {
            return seed >>> 16 & 32767;
        }

        private int keptPicture(int place) {
            int left = place;
            for (int p = 0; p < MOST_PICTURES; p++) {
                if (isIn(keptBits, p)) {
                    if (left == 0) {
                        return p;
                    }
                    left--;
                }
            }
            return 0;
        }
    }

    /** Work: its steps in a row; an again knows the place behind its last step. */
    private static final class Plan {
        private static final int NO_STEP = 0;
        private static final int LOOK = 1;
        private static final int STAR = 2;
        private static final int THROW = 3;
        private static final int SAVE = 4;
        private static final int REST = 5;
        private static final int EVENING = 6;
        private static final int AGAIN = 7;

        private final int[] kinds = new int[SHORT_TEXT];
        private final int[] numbers = new int[SHORT_TEXT];
        private final int[] behinds = new int[SHORT_TEXT];
        private int size;
        private int begun;
        private int done;
        private int refused;

        boolean read(Tape tape, int pictures) {
            size = 0;
            readSteps(tape, pictures, 0);
            if (tape.hasMore()) {
                tape.failHere();
            }
            return tape.isSound();
        }

        private void readSteps(Tape tape, int pictures, int open) {
            for (int i = 0; i < SHORT_TEXT && size < SHORT_TEXT && tape.isAtLetter(); i++) {
                readStep(tape, pictures, open);
                tape.requireSign(';');
            }
        }

        private void readStep(Tape tape, int pictures, int open) {
            tape.takeWord();
            int kind = stepKind(tape);
            if (kind == NO_STEP) {
                tape.fail(FAULT_SIGN, tape.pieceAt);
                return;
            }
            int place = size;
            size++;
            kinds[place] = kind;
            if (kind == AGAIN) {
                readAgain(tape, pictures, open, place);
            } else if (kind != REST && kind != EVENING) {
                numbers[place] = tape.takeNumber(0, pictures - 1);
            }
        }

        private void readAgain(Tape tape, int pictures, int open, int place) {
            if (open >= MOST_OPEN) {
                tape.fail(FAULT_MANY, tape.pieceAt);
                return;
            }
            numbers[place] = tape.takeNumber(0, 20);
            tape.requireSign('[');
            readSteps(tape, pictures, open + 1);
            tape.requireSign(']');
            behinds[place] = size;
        }

        private static int stepKind(Tape tape) {
            if (tape.isWord("look")) {
                return LOOK;
            }
            if (tape.isWord("star")) {
                return STAR;
            }
            if (tape.isWord("throw")) {
                return THROW;
            }
            if (tape.isWord("save")) {
                return SAVE;
            }
            if (tape.isWord("rest")) {
                return REST;
            }
            if (tape.isWord("evening")) {
                return EVENING;
            }
            return tape.isWord("again") ? AGAIN : NO_STEP;
        }

        void perform(Desk desk, Album album, Rule rule) {
            begun = 0;
            done = 0;
            refused = 0;
            performPart(0, size, desk, album, rule);
        }

        private void performPart(int from, int to, Desk desk, Album album, Rule rule) {
            int i = from;
            while (i < to && begun < MOST_BEGUN) {
                begun++;
                if (kinds[i] == AGAIN) {
                    for (int k = 0; k < numbers[i] && begun < MOST_BEGUN; k++) {
                        performPart(i + 1, behinds[i], desk, album, rule);
                    }
                    i = Math.max(i + 1, behinds[i]);
                } else {
                    boolean isDone = performStep(i, desk, album, rule);
                    done += isDone ? 1 : 0;
                    refused += isDone ? 0 : 1;
                    i++;
                }
            }
        }

        private boolean performStep(int i, Desk desk, Album album, Rule rule) {
            switch (kinds[i]) {
                case LOOK:
                    return desk.lookAt(numbers[i], album, rule);
                case STAR:
                    return desk.giveStar(numbers[i]);
                case THROW:
                    return desk.throwOut(numbers[i]);
                case SAVE:
                    return desk.takeBack(numbers[i]);
                case REST:
                    return desk.takeRest();
                default:
                    return desk.passEvening(album.bin);
            }
        }
    }

    /** Lines of two clocks, and by how much the one is off. */
    private static final class ClockLines {
        private final int[] firsts = new int[MOST_LINES];
        private final int[] seconds = new int[MOST_LINES];
        private int count;

        void clear() {
            count = 0;
        }

        boolean read(Tape tape) {
            count = 0;
            for (int i = 0; i <= MOST_LINES && tape.hasMore(); i++) {
                readLine(tape);
            }
            return tape.isSound();
        }

        private void readLine(Tape tape) {
            int first = tape.takeNumber(0, 999);
            if (count >= MOST_LINES) {
                tape.fail(FAULT_MANY, tape.pieceAt);
                return;
            }
            firsts[count] = first;
            seconds[count] = tape.takeNumber(0, 999);
            count++;
            tape.requireSign(';');
        }

        int countRight(int x) {
            int right = 0;
            for (int i = 0; i < count; i++) {
                int gap = firsts[i] + x - seconds[i];
                right += gap >= -1 && gap <= 1 ? 1 : 0;
            }
            return right;
        }

        int countFits(int e) {
            int fits = 0;
            for (int x = -WIDEST_OFF; x <= WIDEST_OFF; x++) {
                fits += countRight(x) >= count - e ? 1 : 0;
            }
            return fits;
        }

        /** The fit in a place, from the least on; NO_OFF if there are not so many. */
        int fitAt(int e, int place) {
            int left = place;
            for (int x = -WIDEST_OFF; x <= WIDEST_OFF; x++) {
                if (countRight(x) >= count - e) {
                    if (left == 0) {
                        return x;
                    }
                    left--;
                }
            }
            return NO_OFF;
        }

        /** Tried from the least size on, below 0 first, so of alike ones the first stays. */
        int bestFit() {
            int best = 0;
            int most = countRight(0);
            for (int size = 1; size <= WIDEST_OFF; size++) {
                for (int x = -size; x <= size; x += 2 * size) {
                    int right = countRight(x);
                    if (right > most) {
                        best = x;
                        most = right;
                    }
                }
            }
            return best;
        }
    }

    /** Goes through all books: scenes that are used cut off most sets early. */
    private static final class BookSearch {
        private int keptBits;
        private int waived;
        private int found;
        private int bestValue;
        private int bestBits;

        void searchAll(Album album, int kept, int personWaived) {
            keptBits = kept;
            waived = personWaived;
            found = 0;
            bestValue = NONE;
            bestBits = NONE;
            choose(album, 0, 0, 0, 0);
        }

        /** Takes or leaves the picture p, then goes on behind it. */
        private void choose(Album album, int p, int bits, int usedScenes, int value) {
            int wanted = album.bookSize - Integer.bitCount(bits);
            if (wanted == 0) {
                weigh(album, bits, value);
                return;
            }
            if (p >= album.count || album.count - p < wanted) {
                return;
            }
            int sceneBit = 1 << album.scenes[p];
            if (isIn(keptBits, p) && (usedScenes & sceneBit) == 0) {
                choose(album, p + 1, bits | 1 << p, usedScenes | sceneBit, value + album.worths[p]);
            }
            choose(album, p + 1, bits, usedScenes, value);
        }

        private void weigh(Album album, int bits, int value) {
            if (!album.areWishesMet(bits, waived)) {
                return;
            }
            found++;
            if (value > bestValue || value == bestValue && bits < bestBits) {
                bestValue = value;
                bestBits = bits;
            }
        }
    }

    /**
     * The row by which least is lost. What is lost by a picture hangs only on which ones were looked at
     * ahead of it, not on their row: so the least is found set by set, from the whole set back.
     */
    private static final class LookOrder {
        private final int[] members = new int[MOST_IN_ORDER];
        private final int[] least = new int[1 << MOST_IN_ORDER];
        private final int[] next = new int[1 << MOST_IN_ORDER];
        private int count;

        void arrange(int pictures, Desk desk, Album album, Rule rule) {
            count = 0;
            for (int p = 0; p < album.count && count < MOST_IN_ORDER; p++) {
                if (isIn(pictures, p)) {
                    members[count] = p;
                    count++;
                }
            }
            int whole = (1 << count) - 1;
            least[whole] = 0;
            next[whole] = NONE;
            for (int behind = whole - 1; behind >= 0; behind--) {
                next[behind] = NONE;
                for (int i = 0; i < count; i++) {
                    if (!isIn(behind, i)) {
                        tryNext(behind, i, lossOf(behind, i, desk, album, rule));
                    }
                }
            }
        }

        /** Members stand from the least on, so of alike ones the first that is tried stays. */
        private void tryNext(int behind, int i, int loss) {
            int sum = loss + least[behind | 1 << i];
            if (next[behind] == NONE || sum < least[behind]) {
                least[behind] = sum;
                next[behind] = i;
            }
        }

        private int lossOf(int behind, int i, Desk desk, Album album, Rule rule) {
            int p = members[i];
            int looks = Integer.bitCount(behind);
            int same = desk.sceneSeen[album.scenes[p]];
            for (int k = 0; k < count; k++) {
                same += isIn(behind, k) && album.scenes[members[k]] == album.scenes[p] ? 1 : 0;
            }
            desk.tellFacts(p, album, rule);
            int tired = Math.min(HIGHEST, desk.tired + looks * album.tire);
            rule.tellMood(tired, desk.looked + looks, same, bitOf(desk.starBits, p));
            return Math.max(0, album.worths[p] - rule.think());
        }

        int leastLost() {
            return least[0];
        }

        int pictureAt(int place) {
            int behind = 0;
            for (int k = 0; k < place && k < count; k++) {
                behind |= next[behind] == NONE ? 0 : 1 << next[behind];
            }
            return place >= count || next[behind] == NONE ? NONE : members[next[behind]];
        }
    }

    /** How likely things are, as whole numbers above and below. */
    private static final class Odds {
        /** All numbers to 12 divide it, so that what is added up for a line stays whole. */
        private static final long LINE_SHARES = 27720;

        static long inLeastTerms(long above, long below, int part) {
            long common = commonDivisor(above, below);
            if (common == 0) {
                return 0;
            }
            return part == 0 ? above / common : below / common;
        }

        private static long commonDivisor(long a, long b) {
            long x = a;
            long y = b;
            for (int i = 0; i < 200 && y != 0; i++) {
                long left = x % y;
                x = y;
                y = left;
            }
            return x;
        }

        static long power(long base, int times) {
            long out = 1;
            for (int i = 0; i < times; i++) {
                out *= base;
            }
            return out;
        }

        /** Of a line of n, times n and LINE_SHARES: how likely the one that is taken is the best. */
        static long lineShares(int n, int r) {
            if (r <= 0) {
                return LINE_SHARES;
            }
            long sum = 0;
            for (int ahead = r; ahead < n; ahead++) {
                sum += LINE_SHARES / ahead;
            }
            return r * sum;
        }

        static int rounds(int n) {
            int rounds = 0;
            for (int left = n; left > 1; left = (left + 1) / 2) {
                rounds++;
            }
            return rounds;
        }

        /** Times 16 to the m. */
        static long mostTimes(int m, int q) {
            long sum = 0;
            long ways = 1;
            for (int k = 0; k <= m; k++) {
                if (2 * k > m) {
                    sum += ways * power(q, k) * power(16 - q, m - k);
                }
                ways = ways * (m - k) / (k + 1);
            }
            return sum;
        }

        /** Times 16 to the x times n. */
        static long eyesOpen(int x, int q, int n) {
            long all = power(16, x);
            return power(all, n) - power(all - power(q, x), n);
        }
    }
}
