/** A loom of cards; ../shared/DOC.md says what each call answers. */
public final class CardLoom {
    public static final int NONE = -1, BAD = -2, STATE = -3, FULL = -4, JAMS = -6;

    private static final int ABSENT = -5, NOTHING = -11, BEYOND = -13, BELOW = -14;
    private static final int NO_VALUE = -2000000000, FAULTY = -100, SOUND = -1;
    private static final int MAX_CARDS = 10, HOLES = 4, COLOURS = 10, MAX_TWIST = 99;
    private static final int MAX_ROWS = 50, MAX_LINES = 8, MAX_BYTES = 80, AHEAD = 200;
    private static final int LISTS = 4, MAX_LIST = 20, LOOKED_AT = 100, TWIST_SHIFT = 100;
    private static final int IDLE = 0, FORWARD = 1, BACKWARD = 2, HALF = 3;
    private static final int FRONT = 0, BACK = 1, LEAN = 2, TURNING = 3, CELL = 4;

    private final Text tape;
    private final Text sheet;
    private final Loom loom;
    private final Loom kept;
    private final LawReader reader;
    private final Mind mind;
    private final Picture picture;
    private final Drafter drafter;
    private final Lists lists;
    private boolean isKept;

    public CardLoom() {
        tape = new Text();
        sheet = new Text();
        loom = new Loom();
        kept = new Loom();
        reader = new LawReader();
        mind = new Mind();
        picture = new Picture();
        drafter = new Drafter();
        lists = new Lists();
        isKept = false;
    }

    // ---- the tape ----

    public int feed(int letter) {
        if (letter < 1 || letter > 127) {
            return BAD;
        }
        if (tape.isFull()) {
            return FULL;
        }
        tape.append(letter);
        return tape.size();
    }

    public int clear() {
        int had = tape.size();
        tape.wipe();
        return had;
    }

    public int thread() {
        int fault = Threading.faultOf(tape);
        if (fault == SOUND) {
            loom.threadBy(tape);
        }
        tape.wipe();
        return fault == SOUND ? loom.threaded() : FAULTY - fault;
    }

    public int law() {
        int fault = reader.read(tape);
        tape.wipe();
        if (fault != SOUND) {
            return FAULTY - fault;
        }
        loom.obey(reader.result());
        return reader.result().leaves();
    }

    // ---- the cards ----

    public int card(int card, int what) {
        Card one = loom.cardAt(card);
        if (one == null) {
            return NONE;
        }
        switch (what) {
            case 0:
            case 1:
            case 2:
            case 3:
                return one.colourIn(what);
            case 4:
                return one.leansToZ();
            case 5:
                return one.onTop();
            case 6:
                return one.twists() + TWIST_SHIFT;
            case 7:
                return loom.cloth().longest(card, TURNING, IDLE);
            case 8:
                return loom.nextTurning(card, 0);
            default:
                return NONE;
        }
    }

    public int slant(int card) {
        Card one = loom.cardAt(card);
        return one == null ? NONE : one.flip();
    }

    public int place(int card, int place) {
        Card one = loom.cardAt(card);
        if (one == null) {
            return NONE;
        }
        return place < 0 || place >= HOLES ? BAD : one.putOnTop(place);
    }

    public int recolour(int card, int hole, int colour) {
        Card one = loom.cardAt(card);
        if (one == null || hole < 0 || hole >= HOLES) {
            return NONE;
        }
        return isColour(colour) ? one.dye(hole, colour) : BAD;
    }

    // ---- picks ----

    public int turn(int card, int turning) {
        if (loom.cardAt(card) == null) {
            return NONE;
        }
        return isTurning(turning) ? turnSet(1 << card, turning) : BAD;
    }

    public int pack(int set, int turning) {
        if (set < 0 || set >= 1 << loom.threaded() || !isTurning(turning)) {
            return BAD;
        }
        return loom.threaded() == 0 ? STATE : turnSet(set, turning);
    }

    private int turnSet(int set, int turning) {
        if (loom.cloth().room() < 1) {
            return FULL;
        }
        return loom.pickSet(set, turning) ? loom.cloth().rows() : JAMS;
    }

    public int weave(int n) {
        if (n < 1 || n > MAX_ROWS) {
            return BAD;
        }
        if (loom.threaded() == 0) {
            return STATE;
        }
        int done = 0;
        while (done < n && loom.pickByLaw()) {
            done++;
        }
        return done;
    }

    public int unweave(int n) {
        return n < 1 || n > MAX_ROWS ? BAD : loom.takeBack(n);
    }

    // ---- rows ----

    public int front(int row, int card) {
        return loom.cloth().cell(row, card, FRONT);
    }

    public int back(int row, int card) {
        return loom.cloth().cell(row, card, BACK);
    }

    public int lean(int row, int card) {
        return loom.cloth().cell(row, card, LEAN);
    }

    public int turning(int row, int card) {
        return loom.cloth().cell(row, card, TURNING);
    }

    // ---- in mind ----

    public int returns() {
        return loom.threaded() == 0 ? STATE : mind.picksToReturn(loom);
    }

    public int flat() {
        return loom.threaded() == 0 ? STATE : mind.picksToFlat(loom);
    }

    public int jam() {
        return loom.threaded() == 0 ? STATE : mind.picksToJam(loom);
    }

    public int undoing(int i, int what) {
        int backs = loom.greatestTwist(1);
        int picks = backs + loom.greatestTwist(-1);
        if (i < -1 || i >= picks || what < 0 || what > 1) {
            return NONE;
        }
        if (i == -1) {
            return picks;
        }
        boolean isBack = i < backs;
        if (what == 1) {
            return isBack ? BACKWARD : FORWARD;
        }
        return isBack ? loom.twistedBeyond(i, 1) : loom.twistedBeyond(i - backs, -1);
    }

    // ---- the picture and its draft ----

    public int paint(int line, int card, int colour) {
        if (!picture.has(line, card)) {
            return NONE;
        }
        return isColour(colour) ? picture.put(line, card, colour) : BAD;
    }

    public int lines(int n) {
        return n < 0 || n > MAX_LINES ? BAD : picture.resize(n);
    }

    public int draft(int line, int card) {
        Card one = loom.cardAt(card);
        if (one == null || line < 0 || line >= picture.height()) {
            return NONE;
        }
        return drafter.plan(one, picture, card) == ABSENT ? ABSENT : drafter.turningFor(line);
    }

    public int fewest(int card) {
        if (card == -1) {
            return fewestOfAll();
        }
        Card one = loom.cardAt(card);
        return one == null ? NONE : drafter.plan(one, picture, card);
    }

    private int fewestOfAll() {
        int sum = 0;
        for (int c = 0; c < loom.threaded(); c++) {
            Card one = loom.cardAt(c);
            int turns = one == null ? ABSENT : drafter.plan(one, picture, c);
            if (turns == ABSENT) {
                return ABSENT;
            }
            sum += turns;
        }
        return sum;
    }

    public int weaveDraft() {
        int height = picture.height();
        if (loom.threaded() == 0 || height == 0 || fewestOfAll() == ABSENT) {
            return STATE;
        }
        if (loom.cloth().room() < height) {
            return FULL;
        }
        drafter.planAll(loom, picture);
        for (int line = 0; line < height; line++) {
            if (!loom.pickDrafted(drafter, line)) {
                loom.takeBack(line);
                return JAMS;
            }
        }
        return loom.cloth().rows();
    }

    public int matches(int from) {
        return loom.cloth().hasRow(from) ? picture.matchesFrom(loom.cloth(), from) : NONE;
    }

    // ---- patterns in the rows ----

    public int period() {
        return loom.cloth().leastPeriod();
    }

    public int mirrors() {
        return loom.cloth().mirrorRows();
    }

    public int run(int colour) {
        if (!isColour(colour)) {
            return BAD;
        }
        int longest = 0;
        for (int c = 0; c < loom.threaded(); c++) {
            longest = Math.max(longest, loom.cloth().longest(c, FRONT, colour));
        }
        return longest;
    }

    public int colours(int colour, int what) {
        if (!isColour(colour)) {
            return BAD;
        }
        switch (what) {
            case 0:
                return loom.cloth().count(FRONT, colour);
            case 1:
                return loom.cloth().count(BACK, colour);
            case 2:
                return loom.holesOf(colour);
            default:
                return NONE;
        }
    }

    public int ranked(int i) {
        return loom.cloth().colourRanked(i);
    }

    public int alike(int row, int other) {
        Cloth cloth = loom.cloth();
        return cloth.hasRow(row) && cloth.hasRow(other) ? cloth.sameFronts(row, other) : NONE;
    }

    public int faces(int row) {
        return loom.cloth().hasRow(row) ? loom.cloth().sameFaces(row) : NONE;
    }

    // ---- told and spelled ----

    public int spell() {
        loom.spellOn(sheet);
        return sheet.size();
    }

    public int paper(int i) {
        return sheet.byteAt(i);
    }

    public int told(int what) {
        switch (what) {
            case 0:
                return loom.threaded();
            case 1:
                return loom.cloth().rows();
            case 2:
                return loom.picks();
            case 3:
                return loom.sumOfTwists();
            case 4:
                return picture.height();
            case 5:
                return loom.greatestFloat();
            case 6:
                return tape.size();
            case 7:
                return sheet.size();
            default:
                return NONE;
        }
    }

    // ---- lists ----

    public int list(int list, int n) {
        if (!lists.has(list)) {
            return NONE;
        }
        if (n > MAX_LIST) {
            return BAD;
        }
        if (n < 0) {
            return BELOW;
        }
        lists.renew(list, n);
        return 1;
    }

    public int set(int list, int i, int v) {
        if (!lists.has(list)) {
            return NONE;
        }
        if (lists.isNothing(list)) {
            return NOTHING;
        }
        if (!lists.hasPlace(list, i)) {
            return BEYOND;
        }
        lists.write(list, i, v);
        return 1;
    }

    public int get(int list, int i) {
        return lists.hasPlace(list, i) ? lists.read(list, i) : NO_VALUE;
    }

    public int lay(int list, int i, int row) {
        Cloth cloth = loom.cloth();
        if (!lists.has(list) || !cloth.hasRow(row)) {
            return NONE;
        }
        if (lists.isNothing(list)) {
            return NOTHING;
        }
        for (int c = 0; c < cloth.width(); c++) {
            if (!lists.hasPlaceBehind(list, i, c)) {
                return BEYOND;
            }
            lists.write(list, i + c, cloth.cell(row, c, FRONT));
        }
        return cloth.width();
    }

    public int judge(int list, int i, int row) {
        Cloth cloth = loom.cloth();
        if (!lists.has(list) || !cloth.hasRow(row)) {
            return NONE;
        }
        if (lists.isNothing(list)) {
            return NOTHING;
        }
        for (int c = 0; c < cloth.width(); c++) {
            if (!lists.hasPlaceBehind(list, i, c)) {
                return LOOKED_AT + c;
            }
            if (lists.read(list, i + c) != cloth.cell(row, c, FRONT)) {
                return c;
            }
        }
        return ABSENT;
    }

    // ---- the image ----

    public int image() {
        kept.copyFrom(loom);
        isKept = true;
        return kept.cloth().rows();
    }

    public int undo() {
        if (!isKept) {
            return STATE;
        }
        loom.copyFrom(kept);
        return loom.cloth().rows();
    }

    private static boolean isColour(int colour) {
        return colour >= 0 && colour < COLOURS;
    }

    private static boolean isTurning(int turning) {
        return turning >= IDLE && turning <= HALF;
    }

    /** How much more a TWIST is by a TURNING; a PLACE is as much more, modulo 4. */
    private static int twistOf(int turning) {
        switch (turning) {
            case FORWARD:
                return 1;
            case BACKWARD:
                return -1;
            case HALF:
                return 2;
            default:
                return 0;
        }
    }

    private static int placeBehind(int place, int twist) {
        return Math.floorMod(place + twist, HOLES);
    }

    private static boolean isTooTwisted(int twist) {
        return twist < -MAX_TWIST || twist > MAX_TWIST;
    }

    /** A row of bytes: THE TAPE, and THE PAPER. */
    private static final class Text {
        private final byte[] bytes = new byte[MAX_BYTES];
        private int size;

        int size() {
            return size;
        }

        boolean isFull() {
            return size >= MAX_BYTES;
        }

        void append(int letter) {
            if (size >= 0 && size < bytes.length) {
                bytes[size] = (byte) letter;
                size++;
            }
        }

        void wipe() {
            size = 0;
        }

        int byteAt(int i) {
            return i >= 0 && i < size && i < bytes.length ? bytes[i] : NONE;
        }
    }

    /** The form of a THREADING as a text: six bytes a CARD, the last one without its ';'. */
    private static final class Threading {
        private static final int STEP = HOLES + 2;

        static int faultOf(Text text) {
            for (int at = 0; at < text.size(); at++) {
                if (!fits(text.byteAt(at), at)) {
                    return at;
                }
            }
            return text.size() % STEP == STEP - 1 ? SOUND : text.size();
        }

        private static boolean fits(int letter, int at) {
            int inCard = at % STEP;
            if (inCard < HOLES) {
                return letter >= 'a' && letter < 'a' + COLOURS;
            }
            if (inCard == HOLES) {
                return letter == 'S' || letter == 'Z';
            }
            return letter == ';' && at < STEP * MAX_CARDS - 1;
        }

        static int cardsOf(Text text) {
            return (text.size() + 1) / STEP;
        }

        static void readCard(Text text, int number, Card into) {
            int start = number * STEP;
            for (int hole = 0; hole < HOLES; hole++) {
                into.dye(hole, text.byteAt(start + hole) - 'a');
            }
            into.beginAnew(text.byteAt(start + HOLES) == 'Z' ? 1 : 0);
        }

        static void writeCard(Card card, Text text) {
            for (int hole = 0; hole < HOLES; hole++) {
                text.append('a' + card.colourIn(hole));
            }
            text.append(card.leansToZ() == 1 ? 'Z' : 'S');
        }
    }

    /** One CARD: what is in its HOLES, and how it stands. */
    private static final class Card {
        private final int[] holes = new int[HOLES];
        private int zSlant;
        private int top;
        private int twist;

        int colourIn(int hole) {
            return hole >= 0 && hole < holes.length ? holes[hole] : NONE;
        }

        int dye(int hole, int colour) {
            int was = colourIn(hole);
            if (hole >= 0 && hole < holes.length) {
                holes[hole] = colour;
            }
            return was;
        }

        int leansToZ() {
            return zSlant;
        }

        int flip() {
            zSlant = 1 - zSlant;
            return zSlant;
        }

        int onTop() {
            return top;
        }

        int putOnTop(int hole) {
            int was = top;
            top = hole;
            return was;
        }

        int twists() {
            return twist;
        }

        void beginAnew(int slantToZ) {
            zSlant = slantToZ;
            top = 0;
            twist = 0;
        }

        boolean jamsBy(int turning) {
            return isTooTwisted(twist + twistOf(turning));
        }

        void twistBy(int more) {
            twist += more;
            top = placeBehind(top, more);
        }

        int frontColour() {
            return colourIn(top);
        }

        int backColour() {
            return colourIn(placeBehind(top, HOLES / 2));
        }

        int leanBy(int turning) {
            if (turning == IDLE) {
                return 0;
            }
            if (turning == HALF) {
                return 3;
            }
            return (turning == FORWARD) == (zSlant == 0) ? 1 : 2;
        }

        void copyFrom(Card other) {
            System.arraycopy(other.holes, 0, holes, 0, HOLES);
            zSlant = other.zSlant;
            top = other.top;
            twist = other.twist;
        }
    }

    /** A LAW as a tree, its nodes in rows that are used again for the next one. */
    private static final class Law {
        private static final int MAX_DEPTH = 6;

        private final char[] kinds = new char[MAX_BYTES];
        private final int[] numbers = new int[MAX_BYTES];
        private final int[] firsts = new int[MAX_BYTES];
        private final int[] seconds = new int[MAX_BYTES];
        private int nodes;
        private int leaves;

        int leaves() {
            return leaves;
        }

        void wipe() {
            nodes = 0;
            leaves = 0;
        }

        /** The root is added first: it is node 0. */
        int add(char kind, int number) {
            if (nodes < 0 || nodes >= MAX_BYTES) {
                return NONE;
            }
            int node = nodes;
            kinds[node] = kind;
            numbers[node] = number;
            firsts[node] = NONE;
            seconds[node] = NONE;
            nodes++;
            return node;
        }

        int addLeaf(char kind) {
            leaves++;
            return add(kind, 0);
        }

        void join(int node, int first, int second) {
            if (node >= 0 && node < nodes && node < MAX_BYTES) {
                firsts[node] = first;
                seconds[node] = second;
            }
        }

        int turningFor(int card, int pick, int threaded) {
            return valueOf(0, card, pick, threaded, 0);
        }

        private int valueOf(int node, int card, int pick, int threaded, int depth) {
            if (node < 0 || node >= nodes || node >= MAX_BYTES || depth > MAX_DEPTH) {
                return IDLE;
            }
            int first = firsts[node];
            int second = seconds[node];
            int number = numbers[node];
            int deeper = depth + 1;
            switch (kinds[node]) {
                case 'f':
                    return FORWARD;
                case 'b':
                    return BACKWARD;
                case 'h':
                    return HALF;
                case 'k':
                    return valueOf(isOddPart(pick, number) ? second : first, card, pick, threaded, deeper);
                case 'c':
                    return valueOf(card < number ? first : second, card, pick, threaded, deeper);
                case 'x':
                    return valueOf(isDivided(pick, number) ? second : first, card, pick, threaded, deeper);
                case 's':
                    return valueOf(first, card, pick + number, threaded, deeper);
                case 'd':
                    return valueOf(first, card, pick + card, threaded, deeper);
                case 'r':
                    return reversed(valueOf(first, card, pick, threaded, deeper));
                case 'm':
                    return valueOf(first, threaded - 1 - card, pick, threaded, deeper);
                case 't':
                    int ahead = valueOf(first, card, pick, threaded, deeper);
                    return ahead != IDLE ? ahead : valueOf(second, card, pick, threaded, deeper);
                default:
                    return IDLE;
            }
        }

        private static boolean isOddPart(int pick, int length) {
            return length > 0 && pick / length % 2 == 1;
        }

        private static boolean isDivided(int pick, int divisor) {
            return divisor > 0 && pick % divisor == 0;
        }

        private static int reversed(int turning) {
            if (turning == FORWARD) {
                return BACKWARD;
            }
            return turning == BACKWARD ? FORWARD : turning;
        }

        void copyFrom(Law other) {
            System.arraycopy(other.kinds, 0, kinds, 0, MAX_BYTES);
            System.arraycopy(other.numbers, 0, numbers, 0, MAX_BYTES);
            System.arraycopy(other.firsts, 0, firsts, 0, MAX_BYTES);
            System.arraycopy(other.seconds, 0, seconds, 0, MAX_BYTES);
            nodes = other.nodes;
            leaves = other.leaves;
        }
    }

    /** Reads a LAW into a tree of its own, so that a text with a FAULT leaves the loom's as it is. */
    private static final class LawReader {
        private static final int MAX_OPEN = 6, MAX_FIGURES = 2;

        private final Law law = new Law();
        private Text text;
        private int at;
        private int fault;

        Law result() {
            return law;
        }

        int read(Text from) {
            text = from;
            at = 0;
            fault = SOUND;
            law.wipe();
            term(0);
            if (fault == SOUND && at < from.size()) {
                fault = at;
            }
            return fault;
        }

        /** Within the most that may be open no text goes on with an opener: its ( would be one too many. */
        private int term(int open) {
            char letter = (char) Math.max(0, next());
            if (isLeaf(letter)) {
                at++;
                return law.addLeaf(letter);
            }
            if (open >= MAX_OPEN || !isOpener(letter)) {
                fail(at);
                return NONE;
            }
            at++;
            int number = hasNumber(letter) ? number(letter) : 0;
            int node = law.add(letter, number);
            expect('(');
            int first = fault == SOUND ? term(open + 1) : NONE;
            int second = NONE;
            if (isPair(letter)) {
                expect(',');
                second = fault == SOUND ? term(open + 1) : NONE;
            }
            expect(')');
            law.join(node, first, second);
            return node;
        }

        private int number(char letter) {
            int start = at;
            int value = 0;
            while (at - start < MAX_FIGURES && next() >= '0' && next() <= '9') {
                value = value * 10 + next() - '0';
                at++;
            }
            int least = letter == 'k' || letter == 'x' ? 1 : 0;
            if (at == start || value < least) {
                fail(start);
            }
            return value;
        }

        private void expect(char letter) {
            if (fault != SOUND) {
                return;
            }
            if (next() == letter) {
                at++;
            } else {
                fail(at);
            }
        }

        /** What comes later in the text is never the least FAULT: the first stays. */
        private void fail(int where) {
            if (fault == SOUND) {
                fault = where;
            }
        }

        private int next() {
            return text == null ? NONE : text.byteAt(at);
        }

        private static boolean isLeaf(char letter) {
            return letter == 'i' || letter == 'f' || letter == 'b' || letter == 'h';
        }

        private static boolean hasNumber(char letter) {
            return letter == 'k' || letter == 'c' || letter == 'x' || letter == 's';
        }

        /** A letter that wants a ( behind it, or behind its number. */
        private static boolean isOpener(char letter) {
            return hasNumber(letter) || letter == 'd' || letter == 'r' || letter == 'm' || letter == 't';
        }

        private static boolean isPair(char letter) {
            return letter == 'k' || letter == 'c' || letter == 'x' || letter == 't';
        }
    }

    /** The ROWS, four numbers for each CARD in each. */
    private static final class Cloth {
        private final int[] cells = new int[MAX_ROWS * MAX_CARDS * CELL];
        private final int[] frontCounts = new int[COLOURS];
        private final int[] backCounts = new int[COLOURS];
        private int rows;
        private int width;

        void beginAnew(int cards) {
            rows = 0;
            width = cards;
        }

        int rows() {
            return rows;
        }

        int width() {
            return width;
        }

        int room() {
            return MAX_ROWS - rows;
        }

        boolean hasRow(int row) {
            return row >= 0 && row < rows;
        }

        int cell(int row, int card, int what) {
            if (!hasRow(row) || card < 0 || card >= width) {
                return NONE;
            }
            int index = (row * MAX_CARDS + card) * CELL + what;
            return index >= 0 && index < cells.length ? cells[index] : NONE;
        }

        /** Writes into the row that is being woven; addRow() makes it one of the ROWS. */
        void put(int card, int what, int value) {
            int index = (rows * MAX_CARDS + card) * CELL + what;
            if (index >= 0 && index < cells.length) {
                cells[index] = value;
            }
        }

        void addRow() {
            if (rows < MAX_ROWS) {
                rows++;
            }
        }

        void dropRow() {
            if (rows > 0) {
                rows--;
            }
        }

        /** The most ROWS one behind the other in which a CARD's number is a given one. */
        int longest(int card, int what, int value) {
            int most = 0;
            int length = 0;
            for (int row = 0; row < rows; row++) {
                length = cell(row, card, what) == value ? length + 1 : 0;
                most = Math.max(most, length);
            }
            return most;
        }

        int count(int what, int value) {
            int found = 0;
            for (int row = 0; row < rows; row++) {
                for (int c = 0; c < width; c++) {
                    if (cell(row, c, what) == value) {
                        found++;
                    }
                }
            }
            return found;
        }

        int colourRanked(int rank) {
            for (int colour = 0; colour < COLOURS; colour++) {
                frontCounts[colour] = count(FRONT, colour);
                backCounts[colour] = count(BACK, colour);
            }
            for (int colour = 0; colour < COLOURS; colour++) {
                if (rankOf(colour) == rank) {
                    return colour;
                }
            }
            return NONE;
        }

        private int rankOf(int colour) {
            int ahead = 0;
            for (int other = 0; other < COLOURS; other++) {
                if (isAhead(other, colour)) {
                    ahead++;
                }
            }
            return ahead;
        }

        private boolean isAhead(int other, int colour) {
            if (frontCounts[other] != frontCounts[colour]) {
                return frontCounts[other] > frontCounts[colour];
            }
            if (backCounts[other] != backCounts[colour]) {
                return backCounts[other] < backCounts[colour];
            }
            return other < colour;
        }

        int sameFronts(int row, int other) {
            int same = 0;
            for (int c = 0; c < width; c++) {
                if (cell(row, c, FRONT) == cell(other, c, FRONT)) {
                    same++;
                }
            }
            return same;
        }

        int sameFaces(int row) {
            int same = 0;
            for (int c = 0; c < width; c++) {
                if (cell(row, c, FRONT) == cell(row, c, BACK)) {
                    same++;
                }
            }
            return same;
        }

        int leastPeriod() {
            for (int p = 1; p < rows; p++) {
                if (repeatsBy(p)) {
                    return p;
                }
            }
            return ABSENT;
        }

        private boolean repeatsBy(int p) {
            for (int row = 0; row + p < rows; row++) {
                if (sameFronts(row, row + p) != width) {
                    return false;
                }
            }
            return true;
        }

        int mirrorRows() {
            int found = 0;
            for (int row = 0; row < rows; row++) {
                if (isMirror(row)) {
                    found++;
                }
            }
            return found;
        }

        private boolean isMirror(int row) {
            for (int c = 0; c < width; c++) {
                if (cell(row, c, FRONT) != cell(row, width - 1 - c, FRONT)) {
                    return false;
                }
            }
            return true;
        }

        void copyFrom(Cloth other) {
            System.arraycopy(other.cells, 0, cells, 0, MAX_ROWS * MAX_CARDS * CELL);
            rows = other.rows;
            width = other.width;
        }
    }

    /** All that THE IMAGE holds: CARDS, ROWS, PICKS, the LAW. */
    private static final class Loom {
        private final Card[] cards = new Card[MAX_CARDS];
        private final int[] turnings = new int[MAX_CARDS];
        private final Cloth cloth = new Cloth();
        private final Law law = new Law();
        private int threaded;

        Loom() {
            for (int c = 0; c < MAX_CARDS; c++) {
                cards[c] = new Card();
            }
        }

        int threaded() {
            return threaded;
        }

        Cloth cloth() {
            return cloth;
        }

        /** Each PICK weaves one ROW and goes with it, so one count tells both. */
        int picks() {
            return cloth.rows();
        }

        Card cardAt(int card) {
            return card >= 0 && card < threaded && card < MAX_CARDS ? cards[card] : null;
        }

        void threadBy(Text text) {
            threaded = Math.min(MAX_CARDS, Threading.cardsOf(text));
            for (int c = 0; c < threaded; c++) {
                Card card = cardAt(c);
                if (card != null) {
                    Threading.readCard(text, c, card);
                }
            }
            cloth.beginAnew(threaded);
        }

        void spellOn(Text text) {
            text.wipe();
            for (int c = 0; c < threaded; c++) {
                Card card = cardAt(c);
                if (card != null) {
                    if (c > 0) {
                        text.append(';');
                    }
                    Threading.writeCard(card, text);
                }
            }
        }

        void obey(Law other) {
            law.copyFrom(other);
        }

        /** The TURNING by the LAW of the PICK that comes behind so many more. */
        int nextTurning(int card, int later) {
            return law.turningFor(card, picks() + later, threaded);
        }

        boolean pickSet(int set, int turning) {
            for (int c = 0; c < MAX_CARDS; c++) {
                turnings[c] = (set >> c & 1) == 1 ? turning : IDLE;
            }
            return pick();
        }

        boolean pickByLaw() {
            for (int c = 0; c < MAX_CARDS; c++) {
                turnings[c] = nextTurning(c, 0);
            }
            return pick();
        }

        boolean pickDrafted(Drafter drafter, int line) {
            for (int c = 0; c < MAX_CARDS; c++) {
                turnings[c] = drafter.turningOf(c, line);
            }
            return pick();
        }

        /** False, and nothing is changed, if there is no room for a ROW or it JAMS. */
        private boolean pick() {
            if (cloth.room() < 1 || jams()) {
                return false;
            }
            for (int c = 0; c < threaded; c++) {
                Card card = cardAt(c);
                if (card != null) {
                    weaveCard(c, card, turnings[c]);
                }
            }
            cloth.addRow();
            return true;
        }

        private boolean jams() {
            for (int c = 0; c < threaded; c++) {
                Card card = cardAt(c);
                if (card != null && card.jamsBy(turnings[c])) {
                    return true;
                }
            }
            return false;
        }

        private void weaveCard(int c, Card card, int turning) {
            card.twistBy(twistOf(turning));
            cloth.put(c, FRONT, card.frontColour());
            cloth.put(c, BACK, card.backColour());
            cloth.put(c, LEAN, card.leanBy(turning));
            cloth.put(c, TURNING, turning);
        }

        int takeBack(int n) {
            int taken = 0;
            while (taken < n && cloth.rows() > 0) {
                takeLastRow();
                taken++;
            }
            return taken;
        }

        private void takeLastRow() {
            int row = cloth.rows() - 1;
            for (int c = 0; c < threaded; c++) {
                Card card = cardAt(c);
                if (card != null) {
                    card.twistBy(-twistOf(cloth.cell(row, c, TURNING)));
                }
            }
            cloth.dropRow();
        }

        /** The greatest TWIST of the sign told (1 or -1), without it; 0, if there is none. */
        int greatestTwist(int sign) {
            int most = 0;
            for (int c = 0; c < threaded; c++) {
                most = Math.max(most, twistAt(c) * sign);
            }
            return most;
        }

        /** The set of CARDS with more than so much TWIST of the sign told. */
        int twistedBeyond(int amount, int sign) {
            int set = 0;
            for (int c = 0; c < threaded; c++) {
                if (twistAt(c) * sign > amount) {
                    set |= 1 << c;
                }
            }
            return set;
        }

        int twistAt(int c) {
            Card card = cardAt(c);
            return card == null ? 0 : card.twists();
        }

        int sumOfTwists() {
            int sum = 0;
            for (int c = 0; c < threaded; c++) {
                sum += Math.abs(twistAt(c));
            }
            return sum;
        }

        int greatestFloat() {
            int most = 0;
            for (int c = 0; c < threaded; c++) {
                most = Math.max(most, cloth.longest(c, TURNING, IDLE));
            }
            return most;
        }

        int holesOf(int colour) {
            int found = 0;
            for (int c = 0; c < threaded; c++) {
                Card card = cardAt(c);
                for (int hole = 0; card != null && hole < HOLES; hole++) {
                    if (card.colourIn(hole) == colour) {
                        found++;
                    }
                }
            }
            return found;
        }

        void copyFrom(Loom other) {
            for (int c = 0; c < MAX_CARDS; c++) {
                Card card = cards[c];
                Card from = other.cards[c];
                if (card != null && from != null) {
                    card.copyFrom(from);
                }
            }
            cloth.copyFrom(other.cloth);
            law.copyFrom(other.law);
            threaded = other.threaded;
        }
    }

    /** PICKS by the LAW that are only thought of: they need no room for ROWS. */
    private static final class Mind {
        private final int[] more = new int[MAX_CARDS];
        private final int[] twists = new int[MAX_CARDS];
        private int cards;

        int picksToReturn(Loom loom) {
            begin(loom);
            for (int p = 1; p <= AHEAD; p++) {
                if (!pick(loom, p - 1)) {
                    return ABSENT;
                }
                if (allPlacesAsNow()) {
                    return p;
                }
            }
            return ABSENT;
        }

        int picksToFlat(Loom loom) {
            begin(loom);
            for (int p = 0; p < AHEAD; p++) {
                if (nothingTwisted()) {
                    return p;
                }
                if (!pick(loom, p)) {
                    return ABSENT;
                }
            }
            return nothingTwisted() ? AHEAD : ABSENT;
        }

        int picksToJam(Loom loom) {
            begin(loom);
            for (int p = 1; p <= AHEAD; p++) {
                if (!pick(loom, p - 1)) {
                    return p;
                }
            }
            return ABSENT;
        }

        private void begin(Loom loom) {
            cards = Math.min(MAX_CARDS, loom.threaded());
            for (int c = 0; c < cards; c++) {
                more[c] = 0;
                twists[c] = loom.twistAt(c);
            }
        }

        /** False, if it JAMS; what is thought of is worth nothing then. */
        private boolean pick(Loom loom, int later) {
            for (int c = 0; c < cards; c++) {
                int twist = twistOf(loom.nextTurning(c, later));
                more[c] += twist;
                twists[c] += twist;
                if (isTooTwisted(twists[c])) {
                    return false;
                }
            }
            return true;
        }

        private boolean allPlacesAsNow() {
            for (int c = 0; c < cards; c++) {
                if (placeBehind(0, more[c]) != 0) {
                    return false;
                }
            }
            return true;
        }

        private boolean nothingTwisted() {
            for (int c = 0; c < cards; c++) {
                if (twists[c] != 0) {
                    return false;
                }
            }
            return true;
        }
    }

    /** The PICTURE. */
    private static final class Picture {
        private final int[] colours = new int[MAX_LINES * MAX_CARDS];
        private int height;

        int height() {
            return height;
        }

        boolean has(int line, int card) {
            return line >= 0 && line < height && card >= 0 && card < MAX_CARDS;
        }

        int at(int line, int card) {
            int index = line * MAX_CARDS + card;
            return has(line, card) && index < colours.length ? colours[index] : NONE;
        }

        int put(int line, int card, int colour) {
            int was = at(line, card);
            int index = line * MAX_CARDS + card;
            if (has(line, card) && index < colours.length) {
                colours[index] = colour;
            }
            return was;
        }

        int resize(int n) {
            int had = height;
            for (int index = had * MAX_CARDS; index < n * MAX_CARDS && index < colours.length; index++) {
                colours[index] = 0;
            }
            height = n;
            return had;
        }

        int matchesFrom(Cloth cloth, int from) {
            int found = 0;
            for (int line = 0; line < height && cloth.hasRow(from + line); line++) {
                for (int c = 0; c < cloth.width(); c++) {
                    if (cloth.cell(from + line, c, FRONT) == at(line, c)) {
                        found++;
                    }
                }
            }
            return found;
        }
    }

    /** The DRAFT: for each CARD by itself, from the PICTURE's last LINE to its first. */
    private static final class Drafter {
        private static final int LOST = 1000, WAYS = 3;

        private final int[] costs = new int[(MAX_LINES + 1) * HOLES];
        private final int[] turnings = new int[MAX_LINES];
        private final int[] all = new int[MAX_LINES * MAX_CARDS];

        /** How many TURNINGS that are not IDLE the CARD needs; ABSENT: it is LOST. */
        int plan(Card card, Picture picture, int column) {
            int height = Math.min(MAX_LINES, picture.height());
            for (int place = 0; place < HOLES; place++) {
                setCost(height, place, 0);
            }
            for (int line = height - 1; line >= 0; line--) {
                for (int place = 0; place < HOLES; place++) {
                    setCost(line, place, leastCost(card, line, place, picture.at(line, column)));
                }
            }
            if (cost(0, card.onTop()) >= LOST) {
                return ABSENT;
            }
            follow(card, picture, column, height);
            return cost(0, card.onTop());
        }

        private void follow(Card card, Picture picture, int column, int height) {
            int place = card.onTop();
            for (int line = 0; line < height; line++) {
                int turning = firstBest(card, line, place, picture.at(line, column));
                turnings[line] = turning;
                place = placeBehind(place, twistOf(turning));
            }
        }

        private int leastCost(Card card, int line, int place, int colour) {
            int least = LOST;
            for (int way = 0; way < WAYS; way++) {
                least = Math.min(least, costBy(wayTurning(way), card, line, place, colour));
            }
            return least;
        }

        private int firstBest(Card card, int line, int place, int colour) {
            for (int way = 0; way < WAYS; way++) {
                if (costBy(wayTurning(way), card, line, place, colour) == cost(line, place)) {
                    return wayTurning(way);
                }
            }
            return IDLE;
        }

        private int costBy(int turning, Card card, int line, int place, int colour) {
            int then = placeBehind(place, twistOf(turning));
            if (card.colourIn(then) != colour) {
                return LOST;
            }
            return Math.min(LOST, cost(line + 1, then) + (turning == IDLE ? 0 : 1));
        }

        /** FORWARD ahead of BACK ahead of IDLE. */
        private static int wayTurning(int way) {
            return way == 0 ? FORWARD : way == 1 ? BACKWARD : IDLE;
        }

        private int cost(int line, int place) {
            int index = line * HOLES + place;
            return index >= 0 && index < costs.length ? costs[index] : LOST;
        }

        private void setCost(int line, int place, int value) {
            int index = line * HOLES + place;
            if (index >= 0 && index < costs.length) {
                costs[index] = value;
            }
        }

        int turningFor(int line) {
            return line >= 0 && line < turnings.length ? turnings[line] : IDLE;
        }

        /** Keeps the whole DRAFT: the first PICK moves the CARDS, and it is from now. */
        void planAll(Loom loom, Picture picture) {
            for (int c = 0; c < MAX_CARDS; c++) {
                Card card = loom.cardAt(c);
                if (card != null) {
                    plan(card, picture, c);
                }
                for (int line = 0; line < MAX_LINES; line++) {
                    all[line * MAX_CARDS + c] = card == null ? IDLE : turnings[line];
                }
            }
        }

        int turningOf(int card, int line) {
            int index = line * MAX_CARDS + card;
            return index >= 0 && index < all.length ? all[index] : IDLE;
        }
    }

    /** The LISTS, each in its part of one row; a size of NONE: nothing is held. */
    private static final class Lists {
        private final int[] values = new int[LISTS * MAX_LIST];
        private final int[] sizes = new int[LISTS];

        Lists() {
            for (int list = 0; list < LISTS; list++) {
                sizes[list] = NONE;
            }
        }

        boolean has(int list) {
            return list >= 0 && list < LISTS;
        }

        boolean isNothing(int list) {
            return !has(list) || sizes[list] == NONE;
        }

        boolean hasPlace(int list, int i) {
            return has(list) && i >= 0 && i < sizes[list];
        }

        /** Asked so, a place near the greatest int does not wrap around. */
        boolean hasPlaceBehind(int list, int i, int more) {
            return hasPlace(list, i) && hasPlace(list, i + more);
        }

        void renew(int list, int n) {
            if (!has(list) || n < 0 || n > MAX_LIST) {
                return;
            }
            sizes[list] = n;
            for (int i = 0; i < n; i++) {
                values[list * MAX_LIST + i] = 0;
            }
        }

        int read(int list, int i) {
            return hasPlace(list, i) ? values[list * MAX_LIST + i] : NO_VALUE;
        }

        void write(int list, int i, int v) {
            if (hasPlace(list, i)) {
                values[list * MAX_LIST + i] = v;
            }
        }
    }
}
