import java.util.Arrays;
import java.util.NoSuchElementException;

/** A world of turtles that are told what to do in Logo. */
public final class TurtleWorld {
    public static final int NONE = -1;

    // What is worked gives a VALUE, or one of these, which no VALUE is held as.
    private static final int NOTHING = 0x80000000;
    private static final int UNKNOWN_WORD = NOTHING + 1;
    private static final int NO_VALUE = NOTHING + 2;
    private static final int NOT_AS_SAID = NOTHING + 3;
    private static final int MISSING = NOTHING + 4;
    private static final int VALUE_TOO_MANY = NOTHING + 5;
    private static final int TOO_DEEP = NOTHING + 6;
    private static final int TOO_FAR = NOTHING + 7;
    private static final int TOO_MUCH = NOTHING + 8;
    private static final int NO_NUMBER = NOTHING + 9;
    private static final int BY_ZERO = NOTHING + 10;
    private static final int NO_CATCH = NOTHING + 11;
    private static final int NONE_TO_LEAVE = NOTHING + 12;
    /** The work goes on at another place, which has been arranged. */
    private static final int ELSEWHERE = NOTHING + 64;

    private static final int ERROR_LONG = 13;
    private static final int BUSY = -20;
    private static final int BIGGEST = 1000000000;
    private static final int LETTERS_MOST = 30;
    private static final int SIZE_MOST = 600;
    private static final int GLOBAL_SIZE_MOST = 300;
    private static final int MADE_MOST = 30000;
    private static final int INSTRUCTIONS_MOST = 20000;
    private static final int LEVELS_MOST = 150;
    private static final int WAITING_MOST = 400;
    private static final int INPUTS_MOST = 5;
    private static final int LOCALS_MOST = 12;
    private static final int STEPS_MOST = 1000000;

    // How a LINE is; 0 as long as there was none.
    private static final int UNDER_WAY = 1;
    private static final int ALL_RUN = 2;
    private static final int BY_ERROR = 3;
    private static final int BY_STOP = 4;

    // The WORDS that can be APPLIED, in the order in which the Lexicon tells them.
    private static final int FD = 1;
    private static final int BK = 2;
    private static final int RT = 3;
    private static final int LT = 4;
    private static final int SETH = 5;
    private static final int PU = 6;
    private static final int PD = 7;
    private static final int SETPEN = 8;
    private static final int HOME = 9;
    private static final int PLACE = 10;
    private static final int CLEAN = 11;
    private static final int TELL = 12;
    private static final int HEADING = 13;
    private static final int XCOR = 14;
    private static final int YCOR = 15;
    private static final int PEN = 16;
    private static final int WHO = 17;
    private static final int DOT = 18;
    private static final int SAME = 19;
    private static final int SUM = 20;
    private static final int DIFFERENCE = 21;
    private static final int PRODUCT = 22;
    private static final int QUOTIENT = 23;
    private static final int REMAINDER = 24;
    private static final int MINUS = 25;
    private static final int LESSP = 26;
    private static final int GREATERP = 27;
    private static final int RANDOM = 28;
    private static final int AND = 29;
    private static final int OR = 30;
    private static final int NOT = 31;
    private static final int EQUALP = 32;
    private static final int LISTP = 33;
    private static final int WORDP = 34;
    private static final int NUMBERP = 35;
    private static final int COUNT = 36;
    private static final int EMPTYP = 37;
    private static final int FIRST = 38;
    private static final int LAST = 39;
    private static final int BUTFIRST = 40;
    private static final int BUTLAST = 41;
    private static final int ITEM = 42;
    private static final int FPUT = 43;
    private static final int LPUT = 44;
    private static final int SENTENCE = 45;
    private static final int LIST = 46;
    private static final int MEMBERP = 47;
    private static final int REVERSE = 48;
    private static final int WORD = 49;
    private static final int MAKE = 50;
    private static final int LOCAL = 51;
    private static final int THING = 52;
    private static final int NAMEP = 53;
    private static final int DEFINE = 54;
    private static final int ARITY = 55;
    private static final int TEXT = 56;
    private static final int PRINT = 57;
    private static final int SHOW = 58;
    private static final int TYPE = 59;
    private static final int RUN = 60;
    private static final int IF = 61;
    private static final int IFELSE = 62;
    private static final int REPEAT = 63;
    private static final int REPCOUNT = 64;
    private static final int WHILE = 65;
    private static final int FOREACH = 66;
    private static final int CURRENT = 67;
    private static final int MAP = 68;
    private static final int ASK = 69;
    private static final int STOP = 70;
    private static final int OUTPUT = 71;
    private static final int CATCH = 72;
    private static final int THROW = 73;
    private static final int ERROR = 74;

    // The other WORDS that mean something: ( ), from EQUALS to OVER the signs = < > + - * /, to and end,
    // and what begins with " or :
    private static final int OPEN = 75;
    private static final int CLOSE = 76;
    private static final int EQUALS = 77;
    private static final int DASH = 81;
    private static final int OVER = 83;
    private static final int TO = 84;
    private static final int END = 85;
    private static final int QUOTED = 86;
    private static final int NAMED = 87;

    private final Heap heap;
    private final Names names;
    private final Procedures procedures;
    private final Turtles turtles;
    private final Output output;
    private final Reader reader;
    private final Line line;
    private final Deeds deeds;
    private final Machine machine;
    /** The LIST of the LINE that is under way or was last. */
    private int lineList;
    private int keptTop;
    private int keptSeed;
    private boolean canGoBack;

    public TurtleWorld(int seed) {
        heap = new Heap(new Lexicon());
        names = new Names(heap);
        procedures = new Procedures(heap);
        turtles = new Turtles();
        output = new Output(heap);
        reader = new Reader(heap, procedures);
        line = new Line(heap);
        Waiting waiting = new Waiting();
        deeds = new Deeds(line, waiting, names, procedures, turtles, output, seed == 0 ? 1 : seed);
        machine = new Machine(line, waiting, names, procedures, turtles, deeds);
    }

    public boolean feed(int a, int b, int c, int d, int e) {
        if (!reader.hasRoom()) {
            return false;
        }
        reader.addBytes(a);
        reader.addBytes(b);
        reader.addBytes(c);
        reader.addBytes(d);
        reader.addBytes(e);
        return true;
    }

    public boolean end(int n) {
        return reader.cut(n);
    }

    public int define() {
        if (line.state == UNDER_WAY) {
            return BUSY;
        }
        if (!reader.read(true)) {
            return -reader.faultKind;
        }
        int came = reader.tellAll();
        if (came > 0) {
            canGoBack = false;
        }
        return came;
    }

    public int line() {
        if (line.state == UNDER_WAY) {
            return BUSY;
        }
        if (!reader.read(false)) {
            return -reader.faultKind;
        }
        collect();
        keep();
        machine.begin(lineList);
        return heap.count(lineList);
    }

    public int fault(int what) {
        if (reader.faultKind == 0) {
            return NONE;
        }
        if (what == 0) {
            return reader.faultPlace;
        }
        return what == 1 ? reader.faultKind : NONE;
    }

    public int run(int n) {
        return machine.goOn(n);
    }

    public boolean go(int n) {
        if (!canGoBack || n < 0 || n > line.done) {
            return false;
        }
        takeBack();
        machine.begin(lineList);
        machine.goOn(n);
        return true;
    }

    public boolean stop() {
        if (line.state != UNDER_WAY) {
            return false;
        }
        machine.finishLine(BY_STOP, 0);
        return true;
    }

    public int look(int what) {
        switch (what) {
            case 0: return line.state;
            case 1: return line.error;
            case 2: return line.done;
            case 3: return line.depth;
            case 4: return machine.waitingCount();
            case 5: return line.made;
            case 6: return line.caught;
            case 7: return turtles.told;
            case 8: return names.globals;
            case 9: return procedures.count;
            case 10: return output.kept;
            case 11: return reader.length;
            case 12: return deeds.seed;
            case 13: return line.calls;
            default: return NONE;
        }
    }

    public int place(int turtle, int axis, int part) throws NoSuchElementException {
        if (!Turtles.exists(turtle) || axis < 0 || axis > 1 || part < 0 || part > 1) {
            throw new NoSuchElementException();
        }
        return turtles.part(turtle, 2 * axis + part);
    }

    public int side(int turtle, int axis, int v) throws NoSuchElementException {
        if (!Turtles.exists(turtle) || axis < 0 || axis > 1) {
            throw new NoSuchElementException();
        }
        return Turtles.sideOf(turtles.part(turtle, 2 * axis), turtles.part(turtle, 2 * axis + 1), v);
    }

    public int turtle(int turtle, int what) {
        if (!Turtles.exists(turtle) || what < 0 || what > 2) {
            return NONE;
        }
        int part = turtles.part(turtle, Turtles.HEAD + what);
        return what == 0 ? 30 * part : part;
    }

    public int dot(int i, int j) {
        return turtles.colourAt(i, j);
    }

    public int out(int k) {
        return output.latest(k);
    }

    public int name(int k, int i) {
        return heap.letter(names.globalName(k), i);
    }

    public int value(int k, int i) {
        int held = names.globalValue(k);
        if (held == NOTHING) {
            return NONE;
        }
        output.begin();
        output.addShown(held, false);
        return output.signAt(i);
    }

    public int procedure(int k, int what) {
        if (k < 0 || k >= procedures.count || what < 0) {
            return NONE;
        }
        if (what == 0) {
            return heap.count(procedures.inputs[k]);
        }
        return what == 1 ? heap.count(procedures.bodies[k]) : heap.letter(procedures.names[k], what - 2);
    }

    public int call(int k, int what) {
        int level = line.callAt(k);
        if (level < 0 || what < 0 || what > 2) {
            return NONE;
        }
        if (what == 0) {
            return line.mark[level];
        }
        int from = line.locals[level];
        int newer = line.callAt(k - 1);
        int to = newer < 0 ? names.locals : line.locals[newer];
        return what == 1 ? to - from : names.countValues(from, to);
    }

    public int sum() {
        return turtles.sumUp();
    }

    /** Drops what no NAME and no procedure reaches: without that, the lines of a long run would fill the heap. */
    private void collect() {
        heap.beginCollecting();
        lineList = heap.moved(reader.lineList);
        names.moveAll();
        procedures.moveAll();
        heap.endCollecting();
    }

    private void keep() {
        names.keep();
        procedures.keep();
        turtles.keep();
        output.keep();
        keptSeed = deeds.seed;
        keptTop = heap.top;
        canGoBack = true;
    }

    private void takeBack() {
        names.takeBack();
        procedures.takeBack();
        turtles.takeBack();
        output.takeBack();
        deeds.seed = keptSeed;
        heap.top = keptTop;
    }

    /** The WORDS that mean something, and what inputs they want. */
    private static final class Lexicon {
        // Behind a point: the kinds of the inputs, n NUMBER, l LIST, w WORD, b true or false, t WORD or NUMBER, v any.
        private static final String TURTLE_WORDS = "fd.n bk.n rt.n lt.n seth.n pu pd setpen.n home place.nn clean tell.n heading xcor ycor pen who dot same.nn";
        private static final String NUMBER_WORDS = "sum.nn difference.nn product.nn quotient.nn remainder.nn minus.n lessp.nn greaterp.nn random.n and.bb or.bb not.b";
        private static final String VALUE_WORDS = "equalp.vv listp.v wordp.v numberp.v count.v emptyp.l first.l last.l butfirst.l butlast.l item.nl fput.vl lput.vl sentence.vv list.vv memberp.vl reverse.l word.tt";
        private static final String OTHER_WORDS = "make.wv local.w thing.w namep.w define.wl arity.w text.w print.v show.v type.v";
        private static final String RUNNING_WORDS = "run.l if.bl ifelse.bll repeat.nl repcount while.ll foreach.ll ? map.ll ask.nl stop output.v catch.wl throw.w error";
        private static final String SIGNS = "( ) = < > + - * / to end";
        private static final int WORDS = 86;
        private static final int ROOM = 600;
        private static final int SLOTS = 256;
        private static final int KINDS = 3;

        private final int[] letters = new int[ROOM];
        private final int[] starts = new int[WORDS];
        private final int[] arities = new int[WORDS];
        private final int[] kinds = new int[WORDS * KINDS];
        private final int[] slots = new int[SLOTS];
        private int words;
        private int used;

        Lexicon() {
            load(TURTLE_WORDS);
            load(NUMBER_WORDS);
            load(VALUE_WORDS);
            load(OTHER_WORDS);
            load(RUNNING_WORDS);
            load(SIGNS);
        }

        private void load(String text) {
            boolean inKinds = false;
            beginWord();
            for (int i = 0; i < text.length(); i++) {
                char c = text.charAt(i);
                if (c == ' ') {
                    endWord();
                    beginWord();
                    inKinds = false;
                } else if (c == '.') {
                    inKinds = true;
                } else if (inKinds) {
                    addKind(c);
                } else {
                    addLetter(c);
                }
            }
            endWord();
        }

        private void beginWord() {
            if (words + 1 < WORDS) {
                words++;
                starts[words] = used;
            }
        }

        private void addLetter(int letter) {
            if (used < ROOM) {
                letters[used] = letter;
                used++;
            }
        }

        private void addKind(int kind) {
            int at = arities[words];
            if (at < KINDS) {
                kinds[words * KINDS + at] = kind;
                arities[words] = at + 1;
            }
        }

        private void endWord() {
            addLetter(0);
            int hash = hashOf(letters, starts[words]);
            for (int i = 0; i < SLOTS; i++) {
                int slot = (hash + i) & (SLOTS - 1);
                if (slots[slot] == 0) {
                    slots[slot] = words;
                    return;
                }
            }
        }

        private static int hashOf(int[] from, int at) {
            int hash = 0;
            for (int i = Math.max(at, 0); i < from.length && from[i] != 0; i++) {
                hash = 31 * hash + from[i];
            }
            return hash;
        }

        private boolean isAt(int code, int[] from, int at) {
            int own = starts[code];
            for (int i = 0; own + i < ROOM && at + i < from.length; i++) {
                if (letters[own + i] != from[at + i]) {
                    return false;
                }
                if (letters[own + i] == 0) {
                    return true;
                }
            }
            return false;
        }

        /** What the WORD means whose letters begin there and end at a 0; 0 for one that could be a NAME. */
        int meaning(int[] from, int at) {
            if (at < 0 || at >= from.length) {
                return 0;
            }
            if (from[at] == '"') {
                return QUOTED;
            }
            if (from[at] == ':') {
                return NAMED;
            }
            int hash = hashOf(from, at);
            for (int i = 0; i < SLOTS; i++) {
                int code = slots[(hash + i) & (SLOTS - 1)];
                if (code == 0 || isAt(code, from, at)) {
                    return code;
                }
            }
            return 0;
        }

        int arity(int code) {
            return code >= 0 && code < WORDS ? arities[code] : 0;
        }

        int kind(int code, int input) {
            return code >= 0 && code < WORDS && input >= 0 && input < KINDS ? kinds[code * KINDS + input] : 'v';
        }
    }

    /**
     * All VALUES. One is an int: a NUMBER twice itself, a LIST or a WORD the place of its cell, behind two bits.
     * A WORD's place is that of its first letter, so what is behind a " or : is a WORD without a copy.
     */
    private static final class Heap {
        private static final int CELLS_FIRST = 16384;
        private static final int CELLS_MOST = 340000;
        private static final int WORD_MARK = 128;
        private static final int LIST_MARK = 0x40000000;
        private static final int COUNT_BITS = 13;
        private static final int COUNT_MASK = (1 << COUNT_BITS) - 1;
        private static final int DEEPEST = 700;

        final Lexicon lexicon;
        final int yes;
        final int no;
        final int errorTag;
        private final int fixed;
        private int[] cells = new int[CELLS_FIRST];
        private int[] spare = new int[CELLS_FIRST];
        int top = 1;
        private int spareTop;
        private final int[] leftLists = new int[DEEPEST];
        private final int[] rightLists = new int[DEEPEST];
        private final int[] nextMembers = new int[DEEPEST];

        Heap(Lexicon lexicon) {
            this.lexicon = lexicon;
            yes = textWord("true");
            no = textWord("false");
            errorTag = textWord("error");
            fixed = top;
        }

        private int textWord(String text) {
            int length = text.length();
            int[] letters = new int[LETTERS_MOST];
            for (int i = 0; i < length && i < LETTERS_MOST; i++) {
                letters[i] = text.charAt(i);
            }
            return newWord(letters, 0, length);
        }

        static boolean isNumber(int v) {
            return (v & 1) == 0;
        }

        static boolean isList(int v) {
            return (v & 3) == 1;
        }

        static boolean isWord(int v) {
            return (v & 3) == 3;
        }

        static int number(int n) {
            return n << 1;
        }

        int truth(boolean b) {
            return b ? yes : no;
        }

        /** The NUMBER that these letters are; NOTHING if they are none, NO_NUMBER below or above. */
        static int numberIn(int[] letters, int from, int to) {
            if (from < 0 || to > letters.length || from >= to) {
                return NOTHING;
            }
            int at = letters[from] == '-' ? from + 1 : from;
            long n = 0;
            for (int i = at; i < to; i++) {
                int digit = letters[i] - '0';
                if (digit < 0 || digit > 9) {
                    return NOTHING;
                }
                n = Math.min(10 * n + digit, BIGGEST + 1L);
            }
            if (at == to) {
                return NOTHING;
            }
            if (n > BIGGEST) {
                return NO_NUMBER;
            }
            return number((int) (at > from ? -n : n));
        }

        private boolean reserve(int count) {
            int need = top + count;
            if (need > CELLS_MOST) {
                return false;
            }
            if (need > cells.length) {
                cells = Arrays.copyOf(cells, Math.min(CELLS_MOST, Math.max(2 * cells.length, need)));
            }
            return true;
        }

        /** A WORD of these letters; NOTHING without room. */
        int newWord(int[] letters, int from, int length) {
            if (from < 0 || length < 1 || length > letters.length - from || !reserve(length + 2)) {
                return NOTHING;
            }
            int at = top + 1;
            System.arraycopy(letters, from, cells, at, length);
            cells[at + length] = 0;
            cells[top] = WORD_MARK + lexicon.meaning(cells, at);
            top = at + length + 1;
            return at << 2 | 3;
        }

        /** A LIST whose members are still to be put; NOTHING without room. */
        int newList(int count, int size) {
            if (count < 0 || count > COUNT_MASK || !reserve(count + 1)) {
                return NOTHING;
            }
            int at = top;
            cells[at] = LIST_MARK | size << COUNT_BITS | count;
            top = at + 1 + count;
            return at << 2 | 1;
        }

        int newListOf(int[] members, int from, int count) {
            if (from < 0 || count < 0 || count > members.length - from) {
                return NOTHING;
            }
            int size = 1;
            for (int i = 0; i < count; i++) {
                size += size(members[from + i]);
            }
            int list = newList(count, size);
            if (list != NOTHING) {
                System.arraycopy(members, from, cells, (list >> 2) + 1, count);
            }
            return list;
        }

        int count(int list) {
            int at = list >> 2;
            return (list & 3) == 1 && at > 0 && at < cells.length ? cells[at] & COUNT_MASK : 0;
        }

        int member(int list, int k) {
            int at = (list >> 2) + 1 + k;
            return k >= 0 && k < count(list) && at < cells.length ? cells[at] : NOTHING;
        }

        void putMember(int list, int k, int v) {
            int at = (list >> 2) + 1 + k;
            if (k >= 0 && k < count(list) && at < cells.length) {
                cells[at] = v;
            }
        }

        int size(int v) {
            int at = v >> 2;
            if ((v & 1) == 0 || at <= 0 || at >= cells.length) {
                return 1;
            }
            if ((v & 3) == 1) {
                return (cells[at] & ~LIST_MARK) >> COUNT_BITS;
            }
            int length = 0;
            for (int i = at; i < cells.length && cells[i] != 0; i++) {
                length++;
            }
            return length;
        }

        int letter(int word, int i) {
            return isWord(word) && i >= 0 && i < size(word) ? cells[(word >> 2) + i] : NONE;
        }

        /** Puts a WORD's letters into a row from a place on; how many they are. */
        int copyLetters(int word, int[] to, int from) {
            int at = word >> 2;
            int count = 0;
            if (at <= 0 || from < 0) {
                return 0;
            }
            for (int i = at; i < cells.length && cells[i] != 0 && from + count < to.length; i++) {
                to[from + count] = cells[i];
                count++;
            }
            return count;
        }

        int meaning(int word) {
            int at = word >> 2;
            if (at <= 0 || at >= cells.length) {
                return 0;
            }
            int mark = cells[at - 1];
            return mark >= WORD_MARK ? mark - WORD_MARK : lexicon.meaning(cells, at);
        }

        /** What is behind the first letter, as a NAME; NOTHING if that is all. */
        int behind(int word) {
            int at = (word >> 2) + 1;
            return at > 1 && at < cells.length && cells[at] != 0 ? at << 2 | 3 : NOTHING;
        }

        /** What a WORD that begins with " is. */
        int quoted(int word) {
            int tail = behind(word);
            if (tail == NOTHING) {
                return NOT_AS_SAID;
            }
            int at = tail >> 2;
            if (cells[at] > '9') {
                return tail;
            }
            int number = numberIn(cells, at, at + size(tail));
            return number == NOTHING ? tail : number;
        }

        boolean sameWord(int a, int b) {
            if (a == b) {
                return true;
            }
            int left = a >> 2;
            int right = b >> 2;
            if (left <= 0 || right <= 0) {
                return false;
            }
            for (int i = 0; left + i < cells.length && right + i < cells.length; i++) {
                int letter = cells[left + i];
                if (letter != cells[right + i]) {
                    return false;
                }
                if (letter == 0) {
                    return true;
                }
            }
            return false;
        }

        /** Whether two are EQUAL as far as their own cells tell: of LISTS the members are still to be asked. */
        private boolean alike(int a, int b) {
            if (a == b) {
                return true;
            }
            if (isWord(a) && isWord(b)) {
                return sameWord(a, b);
            }
            return isList(a) && isList(b) && count(a) == count(b) && size(a) == size(b);
        }

        /** Goes through both without recursion, as LISTS can be some hundred deep. */
        boolean equal(int a, int b) {
            if (!alike(a, b)) {
                return false;
            }
            leftLists[0] = a;
            rightLists[0] = b;
            nextMembers[0] = 0;
            int depth = a == b || !isList(a) ? 0 : 1;
            for (int i = 0; i < STEPS_MOST && depth > 0; i++) {
                int k = nextMembers[depth - 1];
                nextMembers[depth - 1] = k + 1;
                int left = member(leftLists[depth - 1], k);
                int right = member(rightLists[depth - 1], k);
                if (left == NOTHING) {
                    depth--;
                } else if (!alike(left, right)) {
                    return false;
                } else if (isList(left) && left != right && depth < DEEPEST) {
                    leftLists[depth] = left;
                    rightLists[depth] = right;
                    nextMembers[depth] = 0;
                    depth++;
                }
            }
            return true;
        }

        void beginCollecting() {
            System.arraycopy(cells, 0, spare, 0, fixed);
            spareTop = fixed;
        }

        private boolean reserveSpare(int count) {
            int need = spareTop + count;
            if (need > CELLS_MOST) {
                return false;
            }
            if (need > spare.length) {
                spare = Arrays.copyOf(spare, Math.min(CELLS_MOST, Math.max(2 * spare.length, need)));
            }
            return true;
        }

        /** Where a VALUE is in the spare cells, being copied there the first time. */
        int moved(int v) {
            int at = v >> 2;
            if (isNumber(v) || at < fixed || at >= cells.length) {
                return v;
            }
            return isList(v) ? movedList(at) : movedWord(at);
        }

        private int movedList(int at) {
            int mark = cells[at];
            if (mark < 0) {
                return -mark << 2 | 1;
            }
            int span = (mark & COUNT_MASK) + 1;
            if (span > cells.length - at || !reserveSpare(span)) {
                return NOTHING;
            }
            int to = spareTop;
            System.arraycopy(cells, at, spare, to, span);
            spareTop = to + span;
            cells[at] = -to;
            return to << 2 | 1;
        }

        /** Of what is behind a " or : that alone is copied, so that no long WORD is kept for its last letter. */
        private int movedWord(int at) {
            int mark = cells[at - 1];
            if (mark < 0) {
                return -mark << 2 | 3;
            }
            int length = size(at << 2 | 3);
            if (length + 1 > cells.length - at || !reserveSpare(length + 2)) {
                return yes;
            }
            int to = spareTop + 1;
            System.arraycopy(cells, at, spare, to, length + 1);
            spare[to - 1] = mark >= WORD_MARK ? mark : WORD_MARK + lexicon.meaning(spare, to);
            spareTop = to + length + 1;
            if (mark >= WORD_MARK) {
                cells[at - 1] = -to;
            }
            return to << 2 | 3;
        }

        void endCollecting() {
            int at = fixed;
            for (int i = 0; i < STEPS_MOST && at < spareTop; i++) {
                at = (spare[at] & LIST_MARK) != 0 ? moveMembers(at) : behindWord(at);
            }
            int[] old = cells;
            cells = spare;
            spare = old;
            top = spareTop;
        }

        private int moveMembers(int at) {
            int to = at + 1 + (spare[at] & COUNT_MASK);
            for (int i = at + 1; i < to && i < spare.length; i++) {
                // In its own line: moved() may change the row that spare is.
                int now = moved(spare[i]);
                spare[i] = now;
            }
            return to;
        }

        private int behindWord(int at) {
            int end = at + 1;
            for (int i = end; i < spareTop && spare[i] != 0; i++) {
                end++;
            }
            return end + 1;
        }
    }

    /** The tape, and what is read from it. */
    private static final class Reader {
        private static final int ROOM = 4000;
        private static final int TOKENS_MOST = 600;
        private static final int DEEPEST = 20;
        private static final int TOLD_MOST = 200;
        private static final int OUTSIDE = 0;
        private static final int AT_NAME = 1;
        private static final int AT_INPUTS = 2;
        private static final int IN_BODY = 3;

        private final Heap heap;
        private final Procedures procedures;
        private final int[] tape = new int[ROOM];
        int length;
        int faultPlace;
        int faultKind;
        int lineList;
        private final int[] members = new int[TOKENS_MOST];
        private int height;
        private final int[] opened = new int[DEEPEST];
        private int depth;
        private int tokens;
        private boolean defining;
        private int stage;
        private final int[] newNames = new int[TOLD_MOST];
        private final int[] newInputs = new int[TOLD_MOST];
        private final int[] newBodies = new int[TOLD_MOST];
        private int told;
        private int fresh;

        Reader(Heap heap, Procedures procedures) {
            this.heap = heap;
            this.procedures = procedures;
        }

        boolean hasRoom() {
            return length + 20 <= ROOM;
        }

        void addBytes(int four) {
            for (int shift = 24; shift >= 0 && length < ROOM; shift -= 8) {
                tape[length] = four >>> shift & 255;
                length++;
            }
        }

        boolean cut(int n) {
            if (n < 0 || n > length) {
                return false;
            }
            length = n;
            return true;
        }

        /** Reads the tape and empties it; false if there is a FAULT. */
        boolean read(boolean procedureTexts) {
            int top = heap.top;
            begin(procedureTexts);
            boolean inComment = false;
            int at = 0;
            for (int i = 0; i < ROOM && at < length && faultKind == 0; i++) {
                int b = tape[at];
                int to = at + 1;
                if (b != 10 && (b < 32 || b > 126)) {
                    blame(1, at);
                } else if (inComment || b == ';') {
                    inComment = b != 10;
                } else if (b != 10 && b != 32) {
                    to = tokenEnd(at);
                    readToken(at, to);
                }
                at = to;
            }
            readEnd();
            if (faultKind != 0) {
                heap.top = top;
            }
            length = 0;
            return faultKind == 0;
        }

        private void begin(boolean procedureTexts) {
            defining = procedureTexts;
            stage = defining ? OUTSIDE : IN_BODY;
            faultKind = 0;
            height = 0;
            depth = 0;
            tokens = 0;
            told = 0;
            fresh = 0;
        }

        private void blame(int kind, int at) {
            if (faultKind == 0) {
                faultKind = kind;
                faultPlace = at;
            }
        }

        private static boolean isAlone(int b) {
            return b == '[' || b == ']' || b == '(' || b == ')' || isSign(b) && b != '-';
        }

        private static boolean isSign(int b) {
            return b == '+' || b == '-' || b == '*' || b == '/' || b == '=' || b == '<' || b == '>';
        }

        private static boolean isDigit(int b) {
            return b >= '0' && b <= '9';
        }

        private boolean beginsNumber(int dash) {
            if (dash + 1 >= length || !isDigit(tape[dash + 1])) {
                return false;
            }
            int ahead = dash == 0 ? 32 : tape[dash - 1];
            return ahead == 10 || ahead == 32 || ahead == '[' || ahead == '(' || isSign(ahead);
        }

        private int tokenEnd(int at) {
            int end = at + 1;
            if (isAlone(tape[at]) || tape[at] == '-' && !beginsNumber(at)) {
                return end;
            }
            for (int i = end; i < length; i++) {
                int b = tape[i];
                if (b <= 32 || b > 126 || b == ';' || b == '-' || isAlone(b)) {
                    return i;
                }
            }
            return length;
        }

        private void readToken(int at, int to) {
            tokens++;
            if (tape[at] == '[') {
                openList(at);
            } else if (tape[at] == ']') {
                closeList(at);
            } else {
                int v = readPlain(at, to);
                if (faultKind == 0) {
                    takePlain(v, at);
                }
            }
        }

        private void openList(int at) {
            if (depth >= DEEPEST) {
                blame(5, at);
            } else if (tokens > TOKENS_MOST) {
                blame(6, at);
            } else if (stage == OUTSIDE || stage == AT_NAME) {
                blame(stage == OUTSIDE ? 7 : 8, at);
            } else {
                closeInputs();
                opened[depth] = height;
                depth++;
            }
        }

        private void closeList(int at) {
            if (depth == 0) {
                blame(4, at);
                return;
            }
            depth--;
            int from = opened[depth];
            int list = heap.newListOf(members, from, height - from);
            height = from;
            if (tokens > TOKENS_MOST || list == NOTHING) {
                blame(6, at);
            } else {
                addMember(list);
            }
        }

        private int readPlain(int at, int to) {
            int read = Heap.numberIn(tape, at, to);
            if (read == NO_NUMBER) {
                blame(2, at);
            } else if (read == NOTHING && to - at > LETTERS_MOST) {
                blame(3, at);
            } else if (read == NOTHING) {
                read = heap.newWord(tape, at, to - at);
            }
            if (tokens > TOKENS_MOST || read == NOTHING) {
                blame(6, at);
            }
            return read;
        }

        private void takePlain(int v, int at) {
            int meaning = Heap.isWord(v) ? heap.meaning(v) : 0;
            if (stage == OUTSIDE) {
                takeTo(meaning, at);
            } else if (stage == AT_NAME) {
                takeName(v, at);
            } else if (stage == AT_INPUTS && meaning == NAMED) {
                takeInput(v, at);
            } else {
                closeInputs();
                if (defining && depth == 0 && meaning == END) {
                    closeBody(at);
                } else {
                    addMember(v);
                }
            }
        }

        private void takeTo(int meaning, int at) {
            if (meaning == TO) {
                stage = AT_NAME;
            } else {
                blame(7, at);
            }
        }

        private void takeName(int v, int at) {
            if (!Heap.isWord(v) || heap.meaning(v) != 0) {
                blame(8, at);
                return;
            }
            if (isNew(v)) {
                fresh++;
            }
            if (procedures.count + fresh > Procedures.MOST) {
                blame(11, at);
            } else if (told < TOLD_MOST) {
                newNames[told] = v;
                stage = AT_INPUTS;
            }
        }

        private boolean isNew(int word) {
            for (int i = 0; i < told; i++) {
                if (heap.sameWord(newNames[i], word)) {
                    return false;
                }
            }
            return procedures.find(word) < 0;
        }

        private void takeInput(int v, int at) {
            int input = heap.behind(v);
            if (input == NOTHING || height >= INPUTS_MOST) {
                blame(9, at);
                return;
            }
            for (int i = 0; i < height; i++) {
                if (heap.sameWord(members[i], input)) {
                    blame(9, at);
                }
            }
            addMember(input);
        }

        private void addMember(int v) {
            if (height < TOKENS_MOST) {
                members[height] = v;
                height++;
            }
        }

        /** All INPUTS are read, which are the only members so far. */
        private void closeInputs() {
            if (stage == AT_INPUTS && told < TOLD_MOST) {
                newInputs[told] = heap.newListOf(members, 0, height);
                height = 0;
                stage = IN_BODY;
            }
        }

        private void closeBody(int at) {
            int body = heap.newListOf(members, 0, height);
            height = 0;
            stage = OUTSIDE;
            if (told >= TOLD_MOST || body == NOTHING || newInputs[told] == NOTHING) {
                blame(6, at);
            } else {
                newBodies[told] = body;
                told++;
            }
        }

        private void readEnd() {
            if (depth > 0) {
                blame(4, length);
            } else if (!defining) {
                lineList = heap.newListOf(members, 0, height);
                if (lineList == NOTHING) {
                    blame(6, length);
                }
            } else if (stage != OUTSIDE) {
                blame(stage == AT_NAME ? 8 : 10, length);
            }
        }

        int tellAll() {
            for (int i = 0; i < told; i++) {
                procedures.tell(newNames[i], newInputs[i], newBodies[i]);
            }
            return told;
        }
    }

    /** The procedures, each with its NAME, the LIST of its INPUTS and its BODY. */
    private static final class Procedures {
        static final int MOST = 40;

        private final Heap heap;
        final int[] names = new int[MOST];
        final int[] inputs = new int[MOST];
        final int[] bodies = new int[MOST];
        int count;
        private final int[] keptInputs = new int[MOST];
        private final int[] keptBodies = new int[MOST];
        private int keptCount;

        Procedures(Heap heap) {
            this.heap = heap;
        }

        int find(int word) {
            for (int i = 0; i < count; i++) {
                if (heap.sameWord(names[i], word)) {
                    return i;
                }
            }
            return NONE;
        }

        /** False if that would be one too many. */
        boolean tell(int word, int inputList, int body) {
            int at = find(word);
            if (at < 0 && count >= MOST) {
                return false;
            }
            if (at < 0) {
                at = count;
                names[at] = word;
                count++;
            }
            inputs[at] = inputList;
            bodies[at] = body;
            return true;
        }

        void moveAll() {
            for (int i = 0; i < count; i++) {
                names[i] = heap.moved(names[i]);
                inputs[i] = heap.moved(inputs[i]);
                bodies[i] = heap.moved(bodies[i]);
            }
        }

        // NAMES need no keeping: the first ones of a LINE's beginning stay what they are.
        void keep() {
            keptCount = count;
            System.arraycopy(inputs, 0, keptInputs, 0, MOST);
            System.arraycopy(bodies, 0, keptBodies, 0, MOST);
        }

        void takeBack() {
            count = keptCount;
            System.arraycopy(keptInputs, 0, inputs, 0, MOST);
            System.arraycopy(keptBodies, 0, bodies, 0, MOST);
        }
    }

    /** The GLOBAL NAMES, and the LOCAL ones of all open CALLS, those of the newest last. */
    private static final class Names {
        private static final int GLOBALS_MOST = 64;
        private static final int ROOM = LEVELS_MOST * LOCALS_MOST;

        private final Heap heap;
        private final int[] globalNames = new int[GLOBALS_MOST];
        private final int[] globalValues = new int[GLOBALS_MOST];
        int globals;
        private final int[] localNames = new int[ROOM];
        private final int[] localValues = new int[ROOM];
        int locals;
        private final int[] keptValues = new int[GLOBALS_MOST];
        private int keptGlobals;

        Names(Heap heap) {
            this.heap = heap;
        }

        int findLocal(int word, int from) {
            for (int i = locals - 1; i >= from && i >= 0; i--) {
                if (heap.sameWord(localNames[i], word)) {
                    return i;
                }
            }
            return NONE;
        }

        private int findGlobal(int word) {
            for (int i = 0; i < globals; i++) {
                if (heap.sameWord(globalNames[i], word)) {
                    return i;
                }
            }
            return NONE;
        }

        /** The VALUE of a NAME; NO_VALUE without one. */
        int find(int word) {
            int local = findLocal(word, 0);
            if (local >= 0) {
                return localValues[local] == NOTHING ? NO_VALUE : localValues[local];
            }
            int global = findGlobal(word);
            return global >= 0 ? globalValues[global] : NO_VALUE;
        }

        int make(int word, int v) {
            int local = findLocal(word, 0);
            if (local >= 0) {
                localValues[local] = v;
                return NOTHING;
            }
            int global = findGlobal(word);
            if (heap.size(v) > GLOBAL_SIZE_MOST || global < 0 && globals >= GLOBALS_MOST) {
                return TOO_MUCH;
            }
            if (global < 0) {
                global = globals;
                globalNames[global] = word;
                globals++;
            }
            globalValues[global] = v;
            return NOTHING;
        }

        void addLocal(int word, int v) {
            if (locals < ROOM) {
                localNames[locals] = word;
                localValues[locals] = v;
                locals++;
            }
        }

        void dropLocals(int from) {
            if (from >= 0 && from < locals) {
                locals = from;
            }
        }

        int countValues(int from, int to) {
            int count = 0;
            for (int i = Math.max(from, 0); i < to && i < ROOM; i++) {
                if (localValues[i] != NOTHING) {
                    count++;
                }
            }
            return count;
        }

        int globalName(int k) {
            return k >= 0 && k < globals ? globalNames[k] : NOTHING;
        }

        int globalValue(int k) {
            return k >= 0 && k < globals ? globalValues[k] : NOTHING;
        }

        void moveAll() {
            for (int i = 0; i < globals; i++) {
                globalNames[i] = heap.moved(globalNames[i]);
                globalValues[i] = heap.moved(globalValues[i]);
            }
        }

        void keep() {
            keptGlobals = globals;
            System.arraycopy(globalValues, 0, keptValues, 0, GLOBALS_MOST);
        }

        void takeBack() {
            globals = keptGlobals;
            System.arraycopy(keptValues, 0, globalValues, 0, GLOBALS_MOST);
        }
    }

    /** The turtles and the SCREEN. All is exact: r, the root of 3, is only ever floored by floorRoot. */
    private static final class Turtles {
        static final int HEAD = 4;
        private static final int COUNT = 8;
        private static final int PARTS = 7;
        private static final int COLOUR = 5;
        private static final int IS_DOWN = 6;
        private static final int FARTHEST = 1000000;
        private static final int STEP_MOST = 1000;
        private static final int PLACE_MOST = 30000;
        private static final int SIDE = 64;
        private static final int HALF = 32;
        // What a step by 1 adds to px, qx, py, qy in the HEADINGS 0 .. 5.
        private static final int[] STEPS = {0, 0, 2, 0, 1, 0, 0, 1, 0, 1, 1, 0, 2, 0, 0, 0, 0, 1, -1, 0, 1, 0, 0, -1};
        // How many times r / 3 a line rises, in the HEADINGS 0 .. 5.
        private static final int[] SLOPES = {0, 1, 1, 0, -1, -1};

        private final int[] parts = new int[COUNT * PARTS];
        private final int[] dots = new int[SIDE * SIDE];
        int told;
        private final int[] start = new int[4];
        private final int[] goal = new int[4];
        private final int[] keptParts = new int[COUNT * PARTS];
        private final int[] keptDots = new int[SIDE * SIDE];
        private int keptTold;

        Turtles() {
            for (int i = 0; i < COUNT; i++) {
                parts[i * PARTS + COLOUR] = 1;
                parts[i * PARTS + IS_DOWN] = 1;
            }
        }

        static boolean exists(int turtle) {
            return turtle >= 0 && turtle < COUNT;
        }

        int part(int turtle, int k) {
            return exists(turtle) && k >= 0 && k < PARTS ? parts[turtle * PARTS + k] : 0;
        }

        private void setPart(int k, int to) {
            if (exists(told) && k >= 0 && k < PARTS) {
                parts[told * PARTS + k] = to;
            }
        }

        /** floor(q * r). The first guess is never above it, and at most 1 below. */
        private static long floorRoot(long q) {
            long size = q < 0 ? -q : q;
            long square = 3 * size * size;
            long root = size * 1732050807L / 1000000000L;
            if ((root + 1) * (root + 1) <= square) {
                root++;
            }
            return q < 0 ? -root - 1 : root;
        }

        private static long floorHalf(long p, long q) {
            return Math.floorDiv(p + floorRoot(q), 2L);
        }

        /** Whether (p + q * r) / 2 is below, at or above v. */
        static int sideOf(int p, int q, int v) {
            long far = 2L * v - p;
            if (q == 0) {
                return Long.compare(0, far);
            }
            return floorRoot(q) < far ? -1 : 1;
        }

        int forward(int n) {
            if (n < -STEP_MOST || n > STEP_MOST || !exists(told)) {
                return NOT_AS_SAID;
            }
            int base = told * PARTS;
            int heading = Math.floorMod(parts[base + HEAD], 12);
            int direction = heading % 6;
            int times = heading < 6 ? n : -n;
            for (int k = 0; k < 4; k++) {
                start[k] = parts[base + k];
                goal[k] = start[k] + times * STEPS[direction * 4 + k];
                if (goal[k] < -FARTHEST || goal[k] > FARTHEST) {
                    return TOO_FAR;
                }
            }
            if (parts[base + IS_DOWN] == 1) {
                draw(direction, parts[base + COLOUR]);
            }
            System.arraycopy(goal, 0, parts, base, 4);
            return NOTHING;
        }

        /** Draws the LINE from start to goal, column by column (lead is x) or row by row (lead is y). */
        private void draw(int direction, int colour) {
            boolean byColumns = direction >= 2 && direction <= 4;
            int lead = byColumns ? 0 : 2;
            int follow = 2 - lead;
            boolean rises = goal[lead] + goal[lead + 1] > start[lead] + start[lead + 1];
            int[] low = rises ? start : goal;
            int[] high = rises ? goal : start;
            int from = (int) Math.max(floorHalf(low[lead] + 1, low[lead + 1]), -HALF);
            int to = (int) Math.min(floorHalf(high[lead] + 1, high[lead + 1]), HALF - 1);
            for (int i = from; i <= to; i++) {
                long across;
                if (sideOf(low[lead], low[lead + 1], i) > 0) {
                    across = floorHalf(low[follow] + 1, low[follow + 1]);
                } else if (sideOf(high[lead], high[lead + 1], i) < 0) {
                    across = floorHalf(high[follow] + 1, high[follow + 1]);
                } else {
                    across = crossing(lead, SLOPES[direction], i);
                }
                if (across >= -HALF && across < HALF) {
                    int j = (int) across;
                    dots[byColumns ? dotAt(i, j) : dotAt(j, i)] = colour;
                }
            }
        }

        /** floor(y + 1 / 2) where the line's x is i (lead 0), or floor(x + 1 / 2) where its y is. */
        private long crossing(int lead, int slope, int i) {
            int follow = 2 - lead;
            long whole = 3L * (start[follow] - slope * start[lead + 1]) + 3;
            long roots = 3L * start[follow + 1] + slope * (2L * i - start[lead]);
            return Math.floorDiv(whole + floorRoot(roots), 6L);
        }

        private static int dotAt(int i, int j) {
            return ((j + HALF) * SIDE + i + HALF) & (SIDE * SIDE - 1);
        }

        private static boolean onScreen(long i, long j) {
            return i >= -HALF && i < HALF && j >= -HALF && j < HALF;
        }

        int colourAt(int i, int j) {
            return onScreen(i, j) ? dots[dotAt(i, j)] : NONE;
        }

        int colourBelow() {
            long i = floorHalf(part(told, 0) + 1, part(told, 1));
            long j = floorHalf(part(told, 2) + 1, part(told, 3));
            return onScreen(i, j) ? dots[dotAt((int) i, (int) j)] : 0;
        }

        int floorOf(int axis) {
            return (int) floorHalf(part(told, 2 * axis), part(told, 2 * axis + 1));
        }

        int turnTo(int before, int degrees) {
            if (degrees % 30 != 0) {
                return NOT_AS_SAID;
            }
            setPart(HEAD, Math.floorMod(before + degrees / 30, 12));
            return NOTHING;
        }

        int turnBy(int degrees) {
            return turnTo(part(told, HEAD), degrees);
        }

        int lower(boolean down) {
            setPart(IS_DOWN, down ? 1 : 0);
            return NOTHING;
        }

        int takePen(int colour) {
            if (colour < 0 || colour > 7) {
                return NOT_AS_SAID;
            }
            setPart(COLOUR, colour);
            return NOTHING;
        }

        int colour() {
            return part(told, COLOUR);
        }

        int putAt(int x, int y) {
            if (x < -PLACE_MOST || x > PLACE_MOST || y < -PLACE_MOST || y > PLACE_MOST) {
                return NOT_AS_SAID;
            }
            setPart(0, 2 * x);
            setPart(1, 0);
            setPart(2, 2 * y);
            setPart(3, 0);
            return NOTHING;
        }

        int goHome() {
            setPart(HEAD, 0);
            return putAt(0, 0);
        }

        int wipe() {
            Arrays.fill(dots, 0);
            return NOTHING;
        }

        int mean(int turtle) {
            if (!exists(turtle)) {
                return NOT_AS_SAID;
            }
            told = turtle;
            return NOTHING;
        }

        boolean atOnePlace(int a, int b) {
            for (int k = 0; k < 4; k++) {
                if (part(a, k) != part(b, k)) {
                    return false;
                }
            }
            return true;
        }

        int sumUp() {
            int total = 0;
            for (int i = 0; i < dots.length; i++) {
                total = 31 * total + dots[i];
            }
            for (int i = 0; i < parts.length; i++) {
                total = 31 * total + parts[i];
            }
            return total;
        }

        void keep() {
            System.arraycopy(parts, 0, keptParts, 0, parts.length);
            System.arraycopy(dots, 0, keptDots, 0, dots.length);
            keptTold = told;
        }

        void takeBack() {
            System.arraycopy(keptParts, 0, parts, 0, parts.length);
            System.arraycopy(keptDots, 0, dots, 0, dots.length);
            told = keptTold;
        }
    }

    /** OUT, of which the latest signs are kept, and the text of a VALUE as it is SHOWN. */
    private static final class Output {
        private static final int ROOM = 2000;
        private static final int TEXT_ROOM = 8192;
        private static final int DEEPEST = 700;

        private final Heap heap;
        private final int[] signs = new int[ROOM];
        private int next;
        int kept;
        private final int[] keptSigns = new int[ROOM];
        private int keptNext;
        private int keptKept;
        final int[] text = new int[TEXT_ROOM];
        int length;
        private final int[] lists = new int[DEEPEST];
        private final int[] nextMembers = new int[DEEPEST];

        Output(Heap heap) {
            this.heap = heap;
        }

        void begin() {
            length = 0;
        }

        void add(int sign) {
            if (length < TEXT_ROOM) {
                text[length] = sign;
                length++;
            }
        }

        int signAt(int i) {
            return i >= 0 && i < length ? text[i] : NONE;
        }

        /** Bare: a LIST without its own [ ]. Goes through it without recursion, as it can be some hundred deep. */
        void addShown(int v, boolean bare) {
            if (!Heap.isList(v)) {
                addPlain(v);
                return;
            }
            if (!bare) {
                add('[');
            }
            lists[0] = v;
            nextMembers[0] = 0;
            int depth = 1;
            for (int i = 0; i < STEPS_MOST && depth > 0; i++) {
                int k = nextMembers[depth - 1];
                nextMembers[depth - 1] = k + 1;
                int member = heap.member(lists[depth - 1], k);
                if (member != NOTHING && k > 0) {
                    add(' ');
                }
                if (member == NOTHING) {
                    depth--;
                    if (depth > 0 || !bare) {
                        add(']');
                    }
                } else if (!Heap.isList(member)) {
                    addPlain(member);
                } else if (depth < DEEPEST) {
                    add('[');
                    lists[depth] = member;
                    nextMembers[depth] = 0;
                    depth++;
                }
            }
        }

        private void addPlain(int v) {
            if (Heap.isWord(v)) {
                length += heap.copyLetters(v, text, length);
                return;
            }
            int rest = v >> 1;
            if (rest < 0) {
                add('-');
                rest = -rest;
            }
            int unit = 1;
            for (int i = 0; i < 9 && unit <= rest / 10; i++) {
                unit *= 10;
            }
            for (int i = 0; i < 10 && unit > 0; i++) {
                add('0' + rest / unit % 10);
                unit /= 10;
            }
        }

        /** The text comes to OUT. */
        void send() {
            for (int i = 0; i < length; i++) {
                signs[next] = text[i];
                next = next + 1 < ROOM ? next + 1 : 0;
                kept = Math.min(kept + 1, ROOM);
            }
        }

        int latest(int k) {
            return k >= 0 && k < kept ? signs[Math.floorMod(next - 1 - k, ROOM)] : NONE;
        }

        void keep() {
            System.arraycopy(signs, 0, keptSigns, 0, ROOM);
            keptNext = next;
            keptKept = kept;
        }

        void takeBack() {
            System.arraycopy(keptSigns, 0, signs, 0, ROOM);
            next = keptNext;
            kept = keptKept;
        }
    }

    /** How the LINE is, and its LEVELS. */
    private static final class Line {
        static final int WHOLE = 0;
        static final int CALL = 1;
        static final int PLAIN = 2;
        static final int REPEATED = 3;
        static final int WHILE_BODY = 4;
        static final int FOR_EACH = 5;
        // From here on what the LIST gives is wanted.
        static final int GIVING = 6;
        static final int ASKED = 7;
        static final int CAUGHT = 8;
        static final int WHILE_TEST = 9;
        static final int MAPPED = 10;

        private final Heap heap;
        int state;
        int error;
        int done;
        int made;
        int caught;
        int depth;
        int calls;
        final int[] kind = new int[LEVELS_MOST];
        final int[] list = new int[LEVELS_MOST];
        final int[] next = new int[LEVELS_MOST];
        /** Turns that have begun. */
        final int[] turns = new int[LEVELS_MOST];
        /** Turns that are wanted; of a map the SIZE so far. */
        final int[] limit = new int[LEVELS_MOST];
        /** The LIST that is gone through, or the other one of a while. */
        final int[] other = new int[LEVELS_MOST];
        /** Of a CALL its procedure, of an ask the turtle TOLD ahead, of a catch its tag. */
        final int[] mark = new int[LEVELS_MOST];
        final int[] waits = new int[LEVELS_MOST];
        final int[] values = new int[LEVELS_MOST];
        final int[] locals = new int[LEVELS_MOST];

        Line(Heap heap) {
            this.heap = heap;
        }

        void begin() {
            state = UNDER_WAY;
            error = 0;
            done = 0;
            made = 0;
            caught = 0;
            depth = 0;
            calls = 0;
        }

        /** False if there would be one LEVEL too many. */
        boolean open(int levelKind, int members, Waiting waiting) {
            if (depth >= LEVELS_MOST) {
                return false;
            }
            kind[depth] = levelKind;
            list[depth] = members;
            next[depth] = 0;
            turns[depth] = 1;
            limit[depth] = 1;
            other[depth] = NOTHING;
            mark[depth] = NOTHING;
            waits[depth] = waiting.count;
            values[depth] = waiting.height;
            locals[depth] = 0;
            depth++;
            return true;
        }

        void note(int about, int otherList) {
            if (depth > 0) {
                mark[depth - 1] = about;
                other[depth - 1] = otherList;
            }
        }

        /** The LEVEL of the k-th newest open CALL. */
        int callAt(int k) {
            int seen = 0;
            for (int i = depth - 1; i >= 0; i--) {
                if (kind[i] == CALL) {
                    if (seen == k) {
                        return i;
                    }
                    seen++;
                }
            }
            return NONE;
        }

        /** The newest LEVEL of one of two kinds in the newest CALL. */
        int newest(int oneKind, int otherKind) {
            for (int i = depth - 1; i >= 0 && kind[i] != CALL; i--) {
                if (kind[i] == oneKind || kind[i] == otherKind) {
                    return i;
                }
            }
            return NONE;
        }

        int newestCatch(int tag) {
            for (int i = depth - 1; i >= 0; i--) {
                if (kind[i] == CAUGHT && heap.sameWord(mark[i], tag)) {
                    return i;
                }
            }
            return NONE;
        }
    }

    /** What is WAITING, the VALUES that are there for it, and what is ready to be APPLIED. */
    private static final class Waiting {
        static final int NOT_READY = 0;
        static final int WORD_READY = 1;
        static final int CALL_READY = 2;
        static final int TURN_READY = 3;
        static final int PAREN = 4;
        private static final int VALUES_ROOM = WAITING_MOST * INPUTS_MOST + MADE_MOST;

        // What is ready is no more WAITING: its row is the one behind those that are.
        final int[] kind = new int[WAITING_MOST + 1];
        final int[] code = new int[WAITING_MOST + 1];
        final int[] need = new int[WAITING_MOST + 1];
        final int[] strength = new int[WAITING_MOST + 1];
        final int[] base = new int[WAITING_MOST + 1];
        final int[] inputs = new int[WAITING_MOST + 1];
        final int[] body = new int[WAITING_MOST + 1];
        int count;
        final int[] values = new int[VALUES_ROOM];
        int height;
        int ready;

        void begin() {
            count = 0;
            height = 0;
            ready = NOT_READY;
        }

        /** Tells what has been met, in the row behind those that are WAITING. */
        void meet(int whatKind, int whatCode, int wants, int bindsAbove) {
            if (count <= WAITING_MOST) {
                kind[count] = whatKind;
                code[count] = whatCode;
                need[count] = wants;
                strength[count] = bindsAbove;
                base[count] = height;
            }
        }

        void meetCall(int procedure, int inputList, int bodyList, int wants) {
            if (count <= WAITING_MOST) {
                meet(CALL_READY, procedure, wants, 0);
                inputs[count] = inputList;
                body[count] = bodyList;
            }
        }

        /** What has been met last is WAITING, or, if it needs no more, ready. */
        int settleLast() {
            if (count <= WAITING_MOST && need[count] == 0) {
                ready = kind[count];
                return ELSEWHERE;
            }
            if (count >= WAITING_MOST) {
                return TOO_DEEP;
            }
            count++;
            return ELSEWHERE;
        }

        void put(int v) {
            if (height < VALUES_ROOM) {
                values[height] = v;
                height++;
            }
        }

        /** One more VALUE is there for the last one, which is ready if that was all. */
        void supply(int v) {
            put(v);
            int last = count - 1;
            if (last >= 0 && height - base[last] >= need[last]) {
                count = last;
                ready = kind[last];
            }
        }

        /** Takes the inputs of what is ready away; input() still tells them. */
        void release(int wants) {
            height = Math.max(height - wants, 0);
        }

        int input(int i) {
            int at = height + i;
            return at >= 0 && at < VALUES_ROOM ? values[at] : NOTHING;
        }
    }

    /** What the WORDS do that run no LIST. */
    private static final class Deeds {
        private final Heap heap;
        private final Line line;
        private final Waiting waiting;
        private final Names names;
        private final Procedures procedures;
        private final Turtles turtles;
        private final Output output;
        int seed;

        Deeds(Line line, Waiting waiting, Names names, Procedures procedures, Turtles turtles, Output output, int seed) {
            this.heap = line.heap;
            this.line = line;
            this.waiting = waiting;
            this.names = names;
            this.procedures = procedures;
            this.turtles = turtles;
            this.output = output;
            this.seed = seed;
        }

        boolean inputsFit(int word) {
            int count = heap.lexicon.arity(word);
            for (int i = 0; i < count; i++) {
                if (!fits(heap.lexicon.kind(word, i), waiting.input(i))) {
                    return false;
                }
            }
            return true;
        }

        private boolean fits(int kind, int v) {
            switch (kind) {
                case 'n': return Heap.isNumber(v);
                case 'l': return Heap.isList(v);
                case 'w': return Heap.isWord(v);
                case 't': return !Heap.isList(v);
                case 'b': return Heap.isWord(v) && (heap.sameWord(v, heap.yes) || heap.sameWord(v, heap.no));
                default: return true;
            }
        }

        int turtleWord(int word) {
            int n = waiting.input(0) >> 1;
            int m = waiting.input(1) >> 1;
            switch (word) {
                case FD: return turtles.forward(n);
                case BK: return turtles.forward(-n);
                case RT: return turtles.turnBy(n);
                case LT: return turtles.turnBy(-n);
                case SETH: return turtles.turnTo(0, n);
                case PU: return turtles.lower(false);
                case PD: return turtles.lower(true);
                case SETPEN: return turtles.takePen(n);
                case HOME: return turtles.goHome();
                case PLACE: return turtles.putAt(n, m);
                case CLEAN: return turtles.wipe();
                case TELL: return turtles.mean(n);
                case HEADING: return Heap.number(30 * turtles.part(turtles.told, Turtles.HEAD));
                case XCOR: return Heap.number(turtles.floorOf(0));
                case YCOR: return Heap.number(turtles.floorOf(1));
                case PEN: return Heap.number(turtles.colour());
                case WHO: return Heap.number(turtles.told);
                case DOT: return Heap.number(turtles.colourBelow());
                case SAME: return same(n, m);
                default: return UNKNOWN_WORD;
            }
        }

        private int same(int a, int b) {
            if (!Turtles.exists(a) || !Turtles.exists(b)) {
                return NOT_AS_SAID;
            }
            return heap.truth(turtles.atOnePlace(a, b));
        }

        int numberWord(int word) {
            long n = waiting.input(0) >> 1;
            long m = waiting.input(1) >> 1;
            switch (word) {
                case SUM: return inBounds(n + m);
                case DIFFERENCE: return inBounds(n - m);
                case PRODUCT: return inBounds(n * m);
                case QUOTIENT: return m == 0 ? BY_ZERO : inBounds(n / m);
                case REMAINDER: return m == 0 ? BY_ZERO : inBounds(n % m);
                case MINUS: return inBounds(-n);
                case LESSP: return heap.truth(n < m);
                case GREATERP: return heap.truth(n > m);
                case RANDOM: return random((int) n);
                case AND: return heap.truth(isTrue(0) && isTrue(1));
                case OR: return heap.truth(isTrue(0) || isTrue(1));
                case NOT: return heap.truth(!isTrue(0));
                default: return UNKNOWN_WORD;
            }
        }

        private static int inBounds(long n) {
            return n < -BIGGEST || n > BIGGEST ? NO_NUMBER : Heap.number((int) n);
        }

        boolean isTrue(int i) {
            return heap.sameWord(waiting.input(i), heap.yes);
        }

        private int random(int n) {
            if (n < 1) {
                return NOT_AS_SAID;
            }
            int s = seed;
            s ^= s << 13;
            s ^= s >>> 17;
            s ^= s << 5;
            seed = s;
            return Heap.number((s & 0x7fffffff) % n);
        }

        int valueWord(int word) {
            int v = waiting.input(0);
            int u = waiting.input(1);
            switch (word) {
                case EQUALP: return heap.truth(heap.equal(v, u));
                case LISTP: return heap.truth(Heap.isList(v));
                case WORDP: return heap.truth(Heap.isWord(v));
                case NUMBERP: return heap.truth(Heap.isNumber(v));
                case COUNT: return Heap.number(Heap.isList(v) ? heap.count(v) : 1);
                case EMPTYP: return heap.truth(heap.count(v) == 0);
                case FIRST: return item(1, v);
                case LAST: return item(heap.count(v), v);
                case BUTFIRST: return without(v, 0, 1);
                case BUTLAST: return without(v, heap.count(v) - 1, 0);
                case ITEM: return item(v >> 1, u);
                case FPUT: return join(v, true, u, false);
                case LPUT: return join(u, false, v, true);
                case SENTENCE: return join(v, !Heap.isList(v), u, !Heap.isList(u));
                case LIST: return join(v, true, u, true);
                case MEMBERP: return heap.truth(isMember(v, u));
                case REVERSE: return reverse(v);
                case WORD: return joinLetters(v, u);
                default: return UNKNOWN_WORD;
            }
        }

        private int item(int n, int list) {
            return n >= 1 && n <= heap.count(list) ? heap.member(list, n - 1) : NOT_AS_SAID;
        }

        private boolean isMember(int v, int list) {
            int count = heap.count(list);
            for (int i = 0; i < count; i++) {
                if (heap.equal(v, heap.member(list, i))) {
                    return true;
                }
            }
            return false;
        }

        /** A LIST that is made, without its members; TOO_MUCH if that can't be. */
        private int madeList(int count, int size) {
            if (size > SIZE_MOST || line.made + count + 1 > MADE_MOST) {
                return TOO_MUCH;
            }
            int list = heap.newList(count, size);
            if (list == NOTHING) {
                return TOO_MUCH;
            }
            line.made += count + 1;
            return list;
        }

        /** All members but the one that goes; first is the place of the first one that stays. */
        private int without(int list, int gone, int first) {
            int count = heap.count(list) - 1;
            if (count < 0) {
                return NOT_AS_SAID;
            }
            int made = madeList(count, heap.size(list) - heap.size(heap.member(list, gone)));
            for (int i = 0; i < count && made != TOO_MUCH; i++) {
                heap.putMember(made, i, heap.member(list, first + i));
            }
            return made;
        }

        private int reverse(int list) {
            int count = heap.count(list);
            int made = madeList(count, heap.size(list));
            for (int i = 0; i < count && made != TOO_MUCH; i++) {
                heap.putMember(made, i, heap.member(list, count - 1 - i));
            }
            return made;
        }

        /** Each of both is one member, or gives its members. */
        private int join(int a, boolean aIsOne, int b, boolean bIsOne) {
            int aCount = aIsOne ? 1 : heap.count(a);
            int bCount = bIsOne ? 1 : heap.count(b);
            int size = 1 + heap.size(a) - (aIsOne ? 0 : 1) + heap.size(b) - (bIsOne ? 0 : 1);
            int made = madeList(aCount + bCount, size);
            if (made == TOO_MUCH) {
                return made;
            }
            for (int i = 0; i < aCount; i++) {
                heap.putMember(made, i, aIsOne ? a : heap.member(a, i));
            }
            for (int i = 0; i < bCount; i++) {
                heap.putMember(made, aCount + i, bIsOne ? b : heap.member(b, i));
            }
            return made;
        }

        private int joinLetters(int a, int b) {
            output.begin();
            output.addShown(a, false);
            output.addShown(b, false);
            int length = output.length;
            int joined = Heap.numberIn(output.text, 0, length);
            if (joined == NO_NUMBER) {
                return joined;
            }
            boolean isNumber = joined != NOTHING;
            if (isNumber) {
                output.begin();
                output.addShown(joined, false);
                length = output.length;
            }
            if (length > LETTERS_MOST || line.made + length > MADE_MOST) {
                return TOO_MUCH;
            }
            if (!isNumber) {
                joined = heap.newWord(output.text, 0, length);
            }
            if (joined == NOTHING) {
                return TOO_MUCH;
            }
            line.made += length;
            return joined;
        }

        int otherWord(int word) {
            int v = waiting.input(0);
            int u = waiting.input(1);
            switch (word) {
                case MAKE: return names.make(v, u);
                case LOCAL: return local(v);
                case THING: return names.find(v);
                case NAMEP: return heap.truth(names.find(v) != NO_VALUE);
                case DEFINE: return tell(v, u);
                case ARITY: return arity(v);
                case TEXT: return text(v);
                case PRINT: return write(v, true, true);
                case SHOW: return write(v, false, true);
                case TYPE: return write(v, true, false);
                default: return UNKNOWN_WORD;
            }
        }

        private int local(int word) {
            int level = line.callAt(0);
            if (level < 0) {
                return NONE_TO_LEAVE;
            }
            int from = line.locals[level];
            if (names.findLocal(word, from) >= 0) {
                return NOTHING;
            }
            if (names.locals - from >= LOCALS_MOST) {
                return TOO_MUCH;
            }
            names.addLocal(word, NOTHING);
            return NOTHING;
        }

        private int tell(int word, int list) {
            int inputs = heap.member(list, 0);
            int body = heap.member(list, 1);
            if (heap.meaning(word) != 0 || heap.count(list) != 2 || !Heap.isList(inputs) || !Heap.isList(body)) {
                return NOT_AS_SAID;
            }
            if (!canBeInputs(inputs) || heap.size(body) > SIZE_MOST) {
                return NOT_AS_SAID;
            }
            return procedures.tell(word, inputs, body) ? NOTHING : TOO_MUCH;
        }

        private boolean canBeInputs(int list) {
            int count = heap.count(list);
            if (count > INPUTS_MOST) {
                return false;
            }
            for (int i = 0; i < count; i++) {
                int word = heap.member(list, i);
                if (!Heap.isWord(word)) {
                    return false;
                }
                for (int k = 0; k < i; k++) {
                    if (heap.sameWord(word, heap.member(list, k))) {
                        return false;
                    }
                }
            }
            return true;
        }

        private int arity(int word) {
            int at = procedures.find(word);
            return Heap.number(at < 0 ? -1 : heap.count(procedures.inputs[at]));
        }

        private int text(int word) {
            int at = procedures.find(word);
            return at < 0 ? UNKNOWN_WORD : procedures.bodies[at];
        }

        private int write(int v, boolean bare, boolean ends) {
            output.begin();
            output.addShown(v, bare);
            if (ends) {
                output.add(10);
            }
            output.send();
            return NOTHING;
        }
    }

    /** Runs the LINE, INSTRUCTION by INSTRUCTION. */
    private static final class Machine {
        // For = < > + - * / : how strong it is, and the WORD that it is APPLIED as.
        private static final int[] STRENGTHS = {1, 1, 1, 2, 2, 3, 3};
        private static final int[] SIGN_WORDS = {EQUALP, LESSP, GREATERP, SUM, DIFFERENCE, PRODUCT, QUOTIENT};
        private static final int MINUS_STRENGTH = 4;
        // An E is to begin, has got something, or was the last one of a LIST, which has been run.
        private static final int WANTING = 0;
        private static final int HAVING = 1;
        private static final int FINISHING = 2;

        private final Heap heap;
        private final Line line;
        private final Waiting waiting;
        private final Names names;
        private final Procedures procedures;
        private final Turtles turtles;
        private final Deeds deeds;
        private int phase;
        /** What the E that is worked has got, or the LIST has given: a VALUE or NOTHING. */
        private int got;

        Machine(Line line, Waiting waiting, Names names, Procedures procedures, Turtles turtles, Deeds deeds) {
            this.heap = line.heap;
            this.line = line;
            this.waiting = waiting;
            this.names = names;
            this.procedures = procedures;
            this.turtles = turtles;
            this.deeds = deeds;
        }

        int waitingCount() {
            return waiting.count;
        }

        void begin(int list) {
            line.begin();
            waiting.begin();
            names.dropLocals(0);
            line.open(Line.WHOLE, list, waiting);
            phase = WANTING;
            advance();
        }

        int goOn(int n) {
            int most = Math.min(n, INSTRUCTIONS_MOST);
            int count = 0;
            for (int i = 0; i < most && line.state == UNDER_WAY; i++) {
                line.done++;
                count++;
                phase = WANTING;
                take(applyReady());
                advance();
            }
            return count;
        }

        void finishLine(int state, int error) {
            leave(0);
            waiting.begin();
            line.state = state;
            line.error = error;
        }

        /** Goes on up to where the next INSTRUCTION would be APPLIED or begin. */
        private void advance() {
            for (int i = 0; i < STEPS_MOST && line.state == UNDER_WAY && waiting.ready == Waiting.NOT_READY; i++) {
                take(phase == WANTING ? meet() : phase == HAVING ? settle() : finishList());
            }
            if (line.state == UNDER_WAY && line.done >= INSTRUCTIONS_MOST) {
                finishLine(BY_ERROR, ERROR_LONG);
            }
        }

        private void take(int gift) {
            if (gift == ELSEWHERE) {
                return;
            }
            phase = HAVING;
            got = gift;
            if (gift > NOTHING && gift < ELSEWHERE) {
                fail(gift - NOTHING);
            }
        }

        private void fail(int error) {
            int level = line.newestCatch(heap.errorTag);
            if (level < 0) {
                finishLine(BY_ERROR, error);
                return;
            }
            line.caught = error;
            leave(level);
            got = NOTHING;
        }

        /** Leaves this LEVEL and all that are within it. */
        private void leave(int level) {
            for (int i = line.depth - 1; i >= level && i >= 0; i--) {
                if (line.kind[i] == Line.ASKED) {
                    turtles.told = line.mark[i];
                } else if (line.kind[i] == Line.CALL) {
                    names.dropLocals(line.locals[i]);
                    line.calls--;
                }
                waiting.count = line.waits[i];
                waiting.height = line.values[i];
                line.depth = i;
            }
        }

        /** The next member is the first of an E, or the LIST has been run. */
        private int meet() {
            int level = line.depth - 1;
            if (level < 0) {
                return MISSING;
            }
            int member = heap.member(line.list[level], line.next[level]);
            if (member == NOTHING) {
                return waiting.count == line.waits[level] ? finishGiving(NOTHING) : MISSING;
            }
            line.next[level]++;
            return Heap.isWord(member) ? meetWord(member) : member;
        }

        private int meetWord(int word) {
            int meaning = heap.meaning(word);
            if (meaning == QUOTED) {
                return heap.quoted(word);
            }
            if (meaning == NAMED) {
                int behind = heap.behind(word);
                return behind == NOTHING ? NO_VALUE : names.find(behind);
            }
            if (meaning == 0) {
                return meetProcedure(word);
            }
            if (meaning <= ERROR) {
                waiting.meet(Waiting.WORD_READY, meaning, heap.lexicon.arity(meaning), 0);
            } else if (meaning == OPEN) {
                waiting.meet(Waiting.PAREN, OPEN, 1, 0);
            } else if (meaning == DASH) {
                waiting.meet(Waiting.WORD_READY, MINUS, 1, MINUS_STRENGTH);
            } else {
                return meaning == TO || meaning == END ? UNKNOWN_WORD : MISSING;
            }
            return waiting.settleLast();
        }

        private int meetProcedure(int word) {
            int at = procedures.find(word);
            if (at < 0) {
                return UNKNOWN_WORD;
            }
            int inputs = procedures.inputs[at];
            waiting.meetCall(at, inputs, procedures.bodies[at], heap.count(inputs));
            return waiting.settleLast();
        }

        /** Goes on behind what the E has got. */
        private int settle() {
            int level = line.depth - 1;
            if (level < 0) {
                return MISSING;
            }
            int last = waiting.count - 1;
            boolean isInner = last >= line.waits[level] && last >= 0;
            int sign = signAhead(level);
            if (sign >= 0 && STRENGTHS[sign] > (isInner ? waiting.strength[last] : 0)) {
                return meetSign(sign, level);
            }
            if (!isInner) {
                return settleWhole(level);
            }
            if (waiting.kind[last] == Waiting.PAREN) {
                return closeParen(level, last);
            }
            if (got == NOTHING) {
                return MISSING;
            }
            phase = WANTING;
            waiting.supply(got);
            return ELSEWHERE;
        }

        /** Which SIGN the next member is, from 0 on. */
        private int signAhead(int level) {
            int member = heap.member(line.list[level], line.next[level]);
            int meaning = Heap.isWord(member) ? heap.meaning(member) : 0;
            return meaning >= EQUALS && meaning <= OVER ? meaning - EQUALS : NONE;
        }

        private int meetSign(int sign, int level) {
            if (got == NOTHING) {
                return MISSING;
            }
            line.next[level]++;
            waiting.meet(Waiting.WORD_READY, SIGN_WORDS[sign], 2, STRENGTHS[sign]);
            phase = WANTING;
            waiting.put(got);
            return waiting.settleLast();
        }

        private int closeParen(int level, int last) {
            int member = heap.member(line.list[level], line.next[level]);
            if (!Heap.isWord(member) || heap.meaning(member) != CLOSE) {
                return MISSING;
            }
            line.next[level]++;
            waiting.count = last;
            return ELSEWHERE;
        }

        /** An E of the LIST itself has been worked. */
        private int settleWhole(int level) {
            if (got == NOTHING) {
                phase = WANTING;
                return ELSEWHERE;
            }
            boolean isLast = line.next[level] >= heap.count(line.list[level]);
            if (line.kind[level] < Line.GIVING || !isLast) {
                return VALUE_TOO_MANY;
            }
            return finishGiving(got);
        }

        private int finishGiving(int gift) {
            phase = FINISHING;
            got = gift;
            return ELSEWHERE;
        }

        /** The LIST of the newest LEVEL has been run. */
        private int finishList() {
            int level = line.depth - 1;
            if (level < 0) {
                return MISSING;
            }
            switch (line.kind[level]) {
                case Line.WHOLE:
                    finishLine(ALL_RUN, 0);
                    return ELSEWHERE;
                case Line.REPEATED:
                    return line.turns[level] < line.limit[level] ? awaitTurn() : leaveGiving(level, NOTHING);
                case Line.FOR_EACH:
                    return line.turns[level] < heap.count(line.other[level]) ? awaitTurn() : leaveGiving(level, NOTHING);
                case Line.WHILE_BODY:
                    return awaitTurn();
                case Line.WHILE_TEST:
                    return finishTest(level, got);
                case Line.MAPPED:
                    return finishMapped(level, got);
                default:
                    return leaveGiving(level, got);
            }
        }

        private int leaveGiving(int level, int gift) {
            leave(level);
            return gift;
        }

        private int awaitTurn() {
            phase = WANTING;
            waiting.ready = Waiting.TURN_READY;
            return ELSEWHERE;
        }

        private int finishTest(int level, int gift) {
            if (gift == NOTHING) {
                return MISSING;
            }
            if (!Heap.isWord(gift)) {
                return NOT_AS_SAID;
            }
            if (heap.sameWord(gift, heap.yes)) {
                return changeLists(level, Line.WHILE_BODY);
            }
            return heap.sameWord(gift, heap.no) ? leaveGiving(level, NOTHING) : NOT_AS_SAID;
        }

        private int changeLists(int level, int kind) {
            int list = line.list[level];
            line.list[level] = line.other[level];
            line.other[level] = list;
            line.kind[level] = kind;
            line.next[level] = 0;
            phase = WANTING;
            return ELSEWHERE;
        }

        private int finishMapped(int level, int gift) {
            if (gift == NOTHING) {
                return MISSING;
            }
            int size = line.limit[level] + heap.size(gift);
            if (size > SIZE_MOST || line.made >= MADE_MOST) {
                return TOO_MUCH;
            }
            line.made++;
            line.limit[level] = size;
            waiting.put(gift);
            if (line.turns[level] < heap.count(line.other[level])) {
                return awaitTurn();
            }
            int from = line.values[level];
            int list = heap.newListOf(waiting.values, from, waiting.height - from);
            return leaveGiving(level, list == NOTHING ? TOO_MUCH : list);
        }

        private int applyReady() {
            int ready = waiting.ready;
            int row = Math.min(waiting.count, WAITING_MOST);
            int code = waiting.code[row];
            waiting.ready = Waiting.NOT_READY;
            if (ready == Waiting.TURN_READY) {
                return beginTurn();
            }
            waiting.release(waiting.need[row]);
            if (ready == Waiting.CALL_READY) {
                return openCall(row);
            }
            if (!deeds.inputsFit(code)) {
                return NOT_AS_SAID;
            }
            if (code <= SAME) {
                return deeds.turtleWord(code);
            }
            if (code <= NOT) {
                return deeds.numberWord(code);
            }
            if (code <= WORD) {
                return deeds.valueWord(code);
            }
            return code <= TYPE ? deeds.otherWord(code) : runningWord(code);
        }

        private int beginTurn() {
            int level = line.depth - 1;
            if (level < 0) {
                return MISSING;
            }
            if (line.kind[level] == Line.WHILE_BODY) {
                return changeLists(level, Line.WHILE_TEST);
            }
            line.turns[level]++;
            line.next[level] = 0;
            return ELSEWHERE;
        }

        private int openCall(int row) {
            if (!line.open(Line.CALL, waiting.body[row], waiting)) {
                return TOO_DEEP;
            }
            line.note(waiting.code[row], NOTHING);
            line.locals[line.depth - 1] = names.locals;
            line.calls++;
            int inputs = waiting.inputs[row];
            int count = heap.count(inputs);
            for (int i = 0; i < count; i++) {
                names.addLocal(heap.member(inputs, i), waiting.input(i));
            }
            return ELSEWHERE;
        }

        private int runningWord(int word) {
            int v = waiting.input(0);
            int u = waiting.input(1);
            switch (word) {
                case RUN: return open(Line.GIVING, v, NOTHING, NOTHING);
                case IF: return deeds.isTrue(0) ? open(Line.PLAIN, u, NOTHING, NOTHING) : NOTHING;
                case IFELSE: return open(Line.GIVING, deeds.isTrue(0) ? u : waiting.input(2), NOTHING, NOTHING);
                case REPEAT: return repeat(v >> 1, u);
                case REPCOUNT: return repcount();
                case WHILE: return open(Line.WHILE_TEST, v, NOTHING, u);
                case FOREACH: return heap.count(v) == 0 ? NOTHING : open(Line.FOR_EACH, u, NOTHING, v);
                case CURRENT: return current();
                case MAP: return map(v, u);
                case ASK: return ask(v >> 1, u);
                case STOP: return stopCall();
                case OUTPUT: return leaveCall(v);
                case CATCH: return open(Line.CAUGHT, u, v, NOTHING);
                case THROW: return throwTo(v);
                case ERROR: return tellCaught();
                default: return UNKNOWN_WORD;
            }
        }

        private int open(int kind, int list, int mark, int other) {
            if (!line.open(kind, list, waiting)) {
                return TOO_DEEP;
            }
            line.note(mark, other);
            return ELSEWHERE;
        }

        private int repeat(int n, int list) {
            if (n <= 0) {
                return NOTHING;
            }
            int gift = open(Line.REPEATED, list, NOTHING, NOTHING);
            if (gift == ELSEWHERE) {
                line.limit[line.depth - 1] = n;
            }
            return gift;
        }

        private int repcount() {
            int level = line.newest(Line.REPEATED, Line.REPEATED);
            return Heap.number(level < 0 ? 0 : line.turns[level]);
        }

        private int current() {
            int level = line.newest(Line.FOR_EACH, Line.MAPPED);
            return level < 0 ? UNKNOWN_WORD : heap.member(line.other[level], line.turns[level] - 1);
        }

        private int map(int list, int work) {
            if (line.made >= MADE_MOST) {
                return TOO_MUCH;
            }
            boolean isEmpty = heap.count(list) == 0;
            int gift = isEmpty ? heap.newList(0, 1) : open(Line.MAPPED, work, NOTHING, list);
            if (gift == NOTHING) {
                return TOO_MUCH;
            }
            if (gift != TOO_DEEP) {
                line.made++;
            }
            return gift;
        }

        private int ask(int turtle, int list) {
            if (!Turtles.exists(turtle)) {
                return NOT_AS_SAID;
            }
            int gift = open(Line.ASKED, list, turtles.told, NOTHING);
            if (gift == ELSEWHERE) {
                turtles.mean(turtle);
            }
            return gift;
        }

        private int stopCall() {
            int level = line.callAt(0);
            if (level >= 0) {
                return leaveGiving(level, NOTHING);
            }
            finishLine(ALL_RUN, 0);
            return ELSEWHERE;
        }

        private int leaveCall(int gift) {
            int level = line.callAt(0);
            return level < 0 ? NONE_TO_LEAVE : leaveGiving(level, gift);
        }

        private int throwTo(int tag) {
            int level = line.newestCatch(tag);
            return level < 0 ? NO_CATCH : leaveGiving(level, NOTHING);
        }

        private int tellCaught() {
            int number = line.caught;
            line.caught = 0;
            return Heap.number(number);
        }
    }
}
