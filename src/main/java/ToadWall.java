import java.util.Arrays;

/**
 * Toads in the blocks of a quarry, who think on by a law told as a text, and say a word when they are opened.
 * The promises are those of DOC.md; every row is made in a constructor and used again, so that no call makes objects.
 */
public final class ToadWall {
    public static final int BAD = -1, NOT = -2, FULL = -3, STATE = -5, VOID = -2000000000;

    private static final int NOTHING_THERE = -11, OTHER_KIND = -12, NO_PLACE = -13, SIZE_BELOW_0 = -14;
    private static final int FAULTS_BEGIN = -100;

    private static final int BLOCKS = 10, THOUGHTS = 16, WORDS = 10, BEDS = 10;
    private static final int LAST_THOUGHT = THOUGHTS - 1, LAST_CENTURY = 99, LIVES_AT_FIRST = 3;
    private static final int BED = 0, AT = 1, LIVES = 2, OPEN = 3, DEAD = 4, LEADS = 5, WORD = 6, CENTURY = 7;
    private static final int TAPE_MOST = 120;
    private static final int BEHIND_MOST = 60, CHANGED_MOST = 40, BOOK_MOST = 41;
    private static final int OPENINGS_MOST = 4, TURNS_MOST = 4, NOBODY = 10, NO_CHANGE = 256;
    private static final int AGES_MOST = 30, AGE_MOST = 60, ZEAL_MOST = 12;
    private static final int HOURS_MOST = 99;
    private static final int SHELVES = 6;

    private final Quarry quarry;
    private final Law law;
    private final int[] tape;
    private int tapeLength;
    private final Foresight foresight;
    private final Masons masons;
    private final Ages ages;
    private final Deeds deeds;
    private final Changes changes;
    private final Bodies bodies;
    private final Shelf[] shelves;

    public ToadWall() {
        quarry = new Quarry();
        law = new Law();
        tape = new int[TAPE_MOST];
        foresight = new Foresight(quarry, law);
        masons = new Masons(quarry, law);
        ages = new Ages(quarry, law);
        deeds = new Deeds(quarry, law);
        changes = new Changes(quarry);
        bodies = new Bodies();
        shelves = new Shelf[SHELVES];
        for (int s = 0; s < SHELVES; s++) shelves[s] = new Shelf();
    }

    // ---- blocks, thoughts

    public int block(int bed) {
        if (!within(bed, 0, BEDS - 1)) return BAD;
        if (quarry.isFull()) return FULL;
        return quarry.add(bed, 0, LIVES_AT_FIRST);
    }

    public int blocks(int shelf, int i, int n) {
        if (!isShelf(shelf) || !within(n, 1, BLOCKS)) return BAD;
        Shelf from = shelves[shelf];
        if (from.isBare()) return 0;
        if (!from.isRowOfBytes()) return OTHER_KIND;
        int came = 0;
        while (came < n && cameFrom(from, i + 3 * came)) came++;
        return came;
    }

    private boolean cameFrom(Shelf from, int place) {
        if (quarry.isFull() || !from.hasPlaces(place, 3)) return false;
        int bed = (int) from.at(place), at = (int) from.at(place + 1), lives = (int) from.at(place + 2);
        if (!Quarry.isSo(BED, bed) || !Quarry.isSo(AT, at) || !Quarry.isSo(LIVES, lives)) return false;
        quarry.add(bed, at, lives);
        return true;
    }

    public int mend(int number, int what, int v) {
        if (!quarry.has(number, what) || !Quarry.isSo(what, v)) return BAD;
        int was = quarry.told(number, what);
        if (was != v) {
            changes.remember(number, what, was, v);
            quarry.become(number, what, v);
        }
        return was;
    }

    public int of(int number, int what) {
        return quarry.has(number, what) ? quarry.told(number, what) : BAD;
    }

    public int feed(int letter) {
        if (!within(letter, 0, 255)) return BAD;
        if (tapeLength >= TAPE_MOST) return FULL;
        tape[tapeLength] = letter;
        tapeLength++;
        return tapeLength;
    }

    public int law() {
        int fault = law.take(tape, tapeLength);
        tapeLength = 0;
        return fault < 0 ? 1 : FAULTS_BEGIN - fault;
    }

    public int goes(int block) {
        return quarry.hasBlock(block) ? foresight.thoughtsNow(block) : BAD;
    }

    // ---- centuries in thought

    public int later(int n, int block, int what) {
        if (!within(n, 0, BEHIND_MOST) || !quarry.hasBlock(block) || !within(what, 0, 1)) return BAD;
        int at = foresight.atBehind(n, block);
        return what == 0 ? at : quarry.wordAt(at);
    }

    public int wall(int n, int what) {
        if (!within(n, 0, BEHIND_MOST) || !within(what, 0, 1)) return BAD;
        int thoughts = foresight.thoughtsBehind(n);
        return what == 0 ? quarry.wordsAt(thoughts) : Integer.bitCount(thoughts);
    }

    public int when(int block, int thought) {
        if (!quarry.hasBlock(block) || !isThought(thought)) return BAD;
        return foresight.firstAt(block, thought);
    }

    public int meet(int ab) {
        int one = ab / 10, other = ab % 10;
        if (!quarry.hasBlock(one) || !quarry.hasBlock(other) || one == other) return BAD;
        return foresight.firstTogether(one, other);
    }

    public int steps(int from, int to) {
        if (!isThought(from) || !isThought(to)) return BAD;
        return quarry.stepsBetween(from, to);
    }

    public int net(int thought, int what) {
        if (!isThought(thought) || !within(what, 0, 2)) return BAD;
        if (what == 0) return quarry.leadingTo(thought);
        return what == 1 ? quarry.ringOf(thought) : quarry.aheadOfRing(thought);
    }

    public int fewest(int words, int what) {
        if (!within(words, 0, (1 << WORDS) - 1) || !within(what, 0, 1)) return BAD;
        int which = masons.fewestThatSay(words);
        if (which < 0) return NOT;
        return what == 0 ? Integer.bitCount(which) : which;
    }

    public int openings(int k, int i) {
        if (!within(k, 0, OPENINGS_MOST) || i < -1) return BAD;
        if (i < 0) return masons.mostUnlike(k);
        return masons.openedInOrder(k, i);
    }

    // ---- chances, books

    public long chance(int word, int part) {
        if (!within(word, -1, WORDS - 1) || !within(part, 0, 1)) return Long.MIN_VALUE;
        int above = word < 0 ? masons.likePairs() : masons.sayers(word);
        int below = word < 0 ? masons.pairs() : masons.closedOnes();
        if (above == 0) return part;
        int common = commonDivisor(above, below);
        return (part == 0 ? above : below) / common;
    }

    private static int commonDivisor(int a, int b) {
        int divisor = 1;
        for (int d = 2; d <= a && d <= b; d++) {
            if (a % d == 0 && b % d == 0) divisor = d;
        }
        return divisor;
    }

    public int judge(int shelf, int block) {
        int refusal = bookRefusal(shelf, block);
        return refusal < 0 ? refusal : foresight.judged(shelves[shelf], block);
    }

    public int fits(int shelf, int block, int what) {
        if (!within(what, 0, 1)) return BAD;
        int refusal = bookRefusal(shelf, block);
        if (refusal < 0) return refusal;
        Shelf book = shelves[shelf];
        return what == 0 ? foresight.fittingThoughts(book, block) : foresight.fittingBeds(book, block);
    }

    private int bookRefusal(int shelf, int block) {
        if (!isShelf(shelf) || !quarry.hasBlock(block)) return BAD;
        if (shelves[shelf].isBare()) return NOTHING_THERE;
        return shelves[shelf].isRowOfBytes() ? 0 : OTHER_KIND;
    }

    public int changed(int block, int nt, int what) {
        int n = nt >> 4, thought = nt & LAST_THOUGHT;
        if (!quarry.hasBlock(block) || !within(n, 1, CHANGED_MOST) || !within(what, 0, 1)) return BAD;
        int which = foresight.leastChange(block, n, thought);
        if (which < 0) return NOT;
        if (what == 1) return which;
        return which == NO_CHANGE ? 0 : 1;
    }

    public int byTurns(int n, int what) {
        if (!within(n, 1, TURNS_MOST) || !within(what, 0, 1)) return VOID;
        return what == 0 ? masons.gainOf(n) : masons.firstChoice(n);
    }

    public int drawn(int seed, int nmz, int block) {
        int n = nmz / 10000, m = nmz / 100 % 100, zeal = nmz % 100;
        if (!within(n, 1, AGES_MOST) || !within(m, 1, AGE_MOST) || !within(zeal, 0, ZEAL_MOST)) return BAD;
        if (block != -1 && !quarry.hasBlock(block)) return BAD;
        ages.pass(seed, n, m, zeal);
        return block == -1 ? ages.said() : ages.timesOpen(block);
    }

    // ---- in deed

    public int century() {
        return deeds.passCentury();
    }

    public int open(int block) {
        if (!quarry.hasBlock(block)) return BAD;
        return quarry.isOpen(block) ? STATE : deeds.openOne(block);
    }

    public int hours(int n) {
        return within(n, 1, HOURS_MOST) ? deeds.passHours(n) : BAD;
    }

    public int led(int what) {
        return within(what, 0, Deeds.TOLD - 1) ? deeds.tell(what) : BAD;
    }

    public int image() {
        deeds.keepImage();
        return deeds.tell(Deeds.OPENED);
    }

    public int back() {
        if (!deeds.hasImage()) return STATE;
        deeds.layImageBack();
        return deeds.tell(Deeds.OPENED);
    }

    public int undo() {
        return changes.mayBeUndone() == 0 ? STATE : changes.undoLatest();
    }

    public int redo() {
        return changes.mayBeRedone() == 0 ? STATE : changes.redoNext();
    }

    // ---- acts, shelves

    public int body(int kind) {
        if (!Bodies.isKind(kind)) return BAD;
        return bodies.isFull() ? FULL : bodies.add(kind);
    }

    public int act(int body, int act, int x) {
        return bodies.perform(body, act, x);
    }

    public int trace(int i) {
        return bodies.traced(i);
    }

    public int keep(int shelf, int body) {
        if (!isShelf(shelf) || (body != -1 && !bodies.has(body))) return BAD;
        if (body == -1) shelves[shelf].clear();
        else shelves[shelf].holdToad(body);
        return 1;
    }

    public int row(int shelf, int sort, int n) {
        if (!isShelf(shelf) || !Shelf.isSort(sort) || n > Shelf.MOST) return BAD;
        if (n < 0) return SIZE_BELOW_0;
        shelves[shelf].holdRow(sort, n);
        return 1;
    }

    public int put(int shelf, int i, long v) {
        int refusal = placeRefusal(shelf, i);
        if (refusal < 0) return refusal;
        shelves[shelf].set(i, v);
        return 1;
    }

    public long element(int shelf, int i) {
        return placeRefusal(shelf, i) < 0 ? Long.MIN_VALUE : shelves[shelf].at(i);
    }

    private int placeRefusal(int shelf, int i) {
        if (!isShelf(shelf)) return BAD;
        Shelf held = shelves[shelf];
        if (held.isBare()) return NOTHING_THERE;
        if (!held.isRow()) return OTHER_KIND;
        return within(i, 0, held.size() - 1) ? 0 : NO_PLACE;
    }

    public int shift(int shelf, int i, int other, int j, int n) {
        if (!isShelf(shelf) || !isShelf(other)) return BAD;
        Shelf from = shelves[shelf], to = shelves[other];
        if (from.isBare() || to.isBare()) return NOTHING_THERE;
        if (!from.isRow() || !to.isRow() || from.sort() != to.sort()) return OTHER_KIND;
        if (!from.hasPlaces(i, n) || !to.hasPlaces(j, n)) return NO_PLACE;
        to.copy(from, i, j, n);
        return n;
    }

    public int taken(int shelf, int k) {
        if (!isShelf(shelf) || !Bodies.isKind(k)) return BAD;
        Shelf held = shelves[shelf];
        if (held.isBare()) return NOTHING_THERE;
        if (held.isRow()) return OTHER_KIND;
        int kind = bodies.kindOf(held.toad());
        return Bodies.isUnder(kind, k) ? kind : OTHER_KIND;
    }

    public int count(int what) {
        switch (what) {
            case 0: return quarry.size();
            case 1: return quarry.openOnes();
            case 2: return tapeLength;
            case 3: return changes.mayBeUndone();
            case 4: return bodies.size();
            case 5: return bodies.ran();
            default: return BAD;
        }
    }

    private static boolean within(int v, int least, int most) {
        return v >= least && v <= most;
    }

    private static boolean isThought(int thought) {
        return within(thought, 0, LAST_THOUGHT);
    }

    private static boolean isShelf(int shelf) {
        return within(shelf, 0, SHELVES - 1);
    }

    /** What is told of blocks and thoughts, and the century; the net of thoughts. */
    private static final class Quarry {
        private static final int[] MOST_OF = {9, 15, 9, 1, 1, 15, 9, 99};

        private final int[] bed = new int[BLOCKS], at = new int[BLOCKS], lives = new int[BLOCKS];
        private final int[] open = new int[BLOCKS], dead = new int[BLOCKS];
        private final int[] leads = new int[THOUGHTS], word = new int[THOUGHTS];
        private final int[] century = new int[1];
        private int size;

        Quarry() {
            for (int t = 0; t < THOUGHTS; t++) {
                leads[t] = Math.min(t + 1, LAST_THOUGHT);
                word[t] = t % WORDS;
            }
        }

        int size() {
            return size;
        }

        boolean isFull() {
            return size >= BLOCKS;
        }

        int add(int itsBed, int itsAt, int itsLives) {
            if (isFull()) return FULL;
            bed[size] = itsBed;
            at[size] = itsAt;
            lives[size] = itsLives;
            size++;
            return size - 1;
        }

        boolean hasBlock(int block) {
            return within(block, 0, size - 1);
        }

        boolean has(int number, int what) {
            if (what < BED || what > CENTURY || number < 0) return false;
            if (what <= DEAD) return number < size;
            return what == CENTURY ? number == 0 : number < THOUGHTS;
        }

        static boolean isSo(int what, int v) {
            return within(what, BED, CENTURY) && within(v, 0, MOST_OF[what]);
        }

        int told(int number, int what) {
            return has(number, what) ? numbers(what)[number] : BAD;
        }

        void become(int number, int what, int v) {
            if (has(number, what) && isSo(what, v)) numbers(what)[number] = v;
        }

        int[] numbers(int what) {
            switch (what) {
                case BED: return bed;
                case AT: return at;
                case LIVES: return lives;
                case OPEN: return open;
                case DEAD: return dead;
                case LEADS: return leads;
                case WORD: return word;
                default: return century;
            }
        }

        int centuryNow() {
            return century[0];
        }

        boolean isOpen(int block) {
            return hasBlock(block) && open[block] == 1;
        }

        int openOnes() {
            int many = 0;
            for (int b = 0; b < size; b++) many += open[b];
            return many;
        }

        // The mask keeps the index within the row, whatever comes.
        int wordAt(int thought) {
            return word[thought & LAST_THOUGHT];
        }

        int leadsFrom(int thought) {
            return leads[thought & LAST_THOUGHT];
        }

        /** The words at thoughts told as bits. */
        int wordsAt(int thoughts) {
            int bits = 0;
            for (int t = 0; t < THOUGHTS; t++) {
                if ((thoughts >> t & 1) == 1) bits |= 1 << word[t];
            }
            return bits;
        }

        int wordNow(int block) {
            return hasBlock(block) ? wordAt(at[block]) : 0;
        }

        int stepsBetween(int from, int to) {
            int thought = from;
            for (int s = 0; s < THOUGHTS; s++) {
                if (thought == to) return s;
                thought = leadsFrom(thought);
            }
            return NOT;
        }

        int leadingTo(int thought) {
            int bits = 0;
            for (int t = 0; t < THOUGHTS; t++) {
                if (stepsBetween(t, thought) >= 0) bits |= 1 << t;
            }
            return bits;
        }

        int ringOf(int thought) {
            int inRing = thought;
            // Behind as many steps as there are thoughts one is in the ring for certain.
            for (int s = 0; s < THOUGHTS; s++) inRing = leadsFrom(inRing);
            return stepsBetween(leadsFrom(inRing), inRing) + 1;
        }

        int aheadOfRing(int thought) {
            int ahead = thought;
            for (int s = 0; s < THOUGHTS; s++) {
                if (stepsBetween(leadsFrom(ahead), ahead) >= 0) return s;
                ahead = leadsFrom(ahead);
            }
            return THOUGHTS;
        }
    }

    /** The law: read from the tape into a row of codes that is worked out from left to right on a pile of numbers. */
    private static final class Law {
        private static final int CODES = 128, PILE = 128, OPEN_SIGNS_MOST = 6, DIGITS_MOST = 4;
        private static final int MINUS_OF_ONE = '~', END_OF_LINE = ';', ALL_FINE = -1, END_OF_TEXT = -1;
        private static final int NAMES = 6, NO_NAME = -1, MEMORY_BITS = 11;
        // Where the numbers of b, a, w, n, o, y stand in a key of the memory.
        private static final int[] KEY_BITS = {15, 15 << 4, 15 << 8, 15 << 12, 15 << 16, 127 << 20};

        // A code from 0 on is a number, -1 .. -6 are names, a code below them is a sign, told as less than 0.
        private int[] codes = new int[CODES], draft = new int[CODES];
        private int codesLength, draftLength, keyBits, draftKeyBits;
        private int[] text;
        private int length, place;
        private final int[] named = new int[NAMES], pile = new int[PILE];
        private final int[] memory = new int[1 << MEMORY_BITS];

        /** The text becomes the law: -1; or the place of its fault, and the law stays. */
        int take(int[] tape, int tapeLength) {
            text = tape;
            length = Math.min(tapeLength, tape.length);
            place = 0;
            draftLength = 0;
            draftKeyBits = 0;
            boolean fine = readLine();
            for (int i = 0; i < TAPE_MOST && fine && comes() == ';'; i++) {
                place++;
                fine = readLine();
            }
            if (!fine || place < length) return place;
            adoptDraft();
            return ALL_FINE;
        }

        private void adoptDraft() {
            int[] old = codes;
            codes = draft;
            draft = old;
            codesLength = draftLength;
            keyBits = draftKeyBits;
            Arrays.fill(memory, -1);
        }

        private int comes() {
            return place < length ? text[place] : END_OF_TEXT;
        }

        private void write(int code) {
            if (draftLength >= CODES) return;
            draft[draftLength] = code;
            draftLength++;
        }

        private boolean readLine() {
            boolean fine = readE(0);
            if (fine && comes() == '?') {
                place++;
                write(-'?');
                fine = readE(0);
            }
            write(-END_OF_LINE);
            return fine;
        }

        // depth: how many of ( ! - are open. Each leaves the place at the first byte that it can't go on with.
        private boolean readE(int depth) {
            boolean fine = readA(depth);
            for (int i = 0; i < TAPE_MOST && fine && comes() == '|'; i++) {
                place++;
                fine = readA(depth);
                write(-'|');
            }
            return fine;
        }

        private boolean readA(int depth) {
            boolean fine = readB(depth);
            for (int i = 0; i < TAPE_MOST && fine && comes() == '&'; i++) {
                place++;
                fine = readB(depth);
                write(-'&');
            }
            return fine;
        }

        private boolean readB(int depth) {
            boolean fine = readS(depth);
            int sign = comes();
            if (fine && (sign == '<' || sign == '=' || sign == '>')) {
                place++;
                fine = readS(depth);
                write(-sign);
            }
            return fine;
        }

        private boolean readS(int depth) {
            boolean fine = readP(depth);
            for (int i = 0; i < TAPE_MOST && fine && (comes() == '+' || comes() == '-'); i++) {
                int sign = comes();
                place++;
                fine = readP(depth);
                write(-sign);
            }
            return fine;
        }

        private boolean readP(int depth) {
            boolean fine = readO(depth);
            for (int i = 0; i < TAPE_MOST && fine && (comes() == '*' || comes() == '/' || comes() == '%'); i++) {
                int sign = comes();
                place++;
                fine = readO(depth);
                write(-sign);
            }
            return fine;
        }

        private boolean readO(int depth) {
            int sign = comes();
            if (isDigit(sign)) {
                readNumber();
                return true;
            }
            if (nameOf(sign) != NO_NAME) {
                readName(nameOf(sign));
                return true;
            }
            if (depth >= OPEN_SIGNS_MOST || (sign != '(' && sign != '!' && sign != '-')) return false;
            place++;
            return sign == '(' ? readToBracket(depth + 1) : readSigned(sign, depth + 1);
        }

        private boolean readToBracket(int depth) {
            if (!readE(depth) || comes() != ')') return false;
            place++;
            return true;
        }

        private boolean readSigned(int sign, int depth) {
            boolean fine = readO(depth);
            write(sign == '-' ? -MINUS_OF_ONE : -sign);
            return fine;
        }

        private void readNumber() {
            int v = 0;
            for (int d = 0; d < DIGITS_MOST && isDigit(comes()); d++) {
                v = v * 10 + comes() - '0';
                place++;
            }
            write(v);
        }

        private void readName(int name) {
            draftKeyBits |= KEY_BITS[name];
            write(-1 - name);
            place++;
        }

        private static boolean isDigit(int sign) {
            return sign >= '0' && sign <= '9';
        }

        private static int nameOf(int sign) {
            switch (sign) {
                case 'b': return 0;
                case 'a': return 1;
                case 'w': return 2;
                case 'n': return 3;
                case 'o': return 4;
                case 'y': return 5;
                default: return NO_NAME;
            }
        }

        /** How many thoughts such a one goes on in a century. */
        int thoughts(int bed, int at, int word, int number, int openOnes, int century) {
            if (codesLength == 0) return 1 + bed / 4;
            // Many ages ask the same over and over: the answer is kept by those numbers that the law looks at.
            int key = (bed | at << 4 | word << 8 | number << 12 | openOnes << 16 | century << 20) & keyBits;
            int slot = (key * 0x9E3779B1) >>> (32 - MEMORY_BITS);
            if (memory[slot] >> 4 == key) return memory[slot] & 15;
            named[0] = bed;
            named[1] = at;
            named[2] = word;
            named[3] = number;
            named[4] = openOnes;
            named[5] = century;
            int held = Math.max(0, Math.min(9, workedOut()));
            memory[slot] = key << 4 | held;
            return held;
        }

        // The masks keep the indexes within the pile, whatever comes.
        private int workedOut() {
            int mask = PILE - 1, top = 0;
            boolean counts = true;
            for (int i = 0; i < codesLength && i < CODES; i++) {
                int code = codes[i], last = pile[(top - 1) & mask];
                if (code >= -NAMES) {
                    pile[top & mask] = code >= 0 ? code : named[-1 - code];
                    top++;
                } else if (code == -'!') {
                    pile[(top - 1) & mask] = last == 0 ? 1 : 0;
                } else if (code == -MINUS_OF_ONE) {
                    pile[(top - 1) & mask] = -last;
                } else if (code == -'?') {
                    counts = last != 0;
                    top--;
                } else if (code == -END_OF_LINE) {
                    if (counts) return last;
                    counts = true;
                    top--;
                } else {
                    top--;
                    pile[(top - 1) & mask] = joined(-code, pile[(top - 1) & mask], last);
                }
            }
            return 0;
        }

        private static int joined(int sign, int left, int right) {
            switch (sign) {
                case '|': return left != 0 || right != 0 ? 1 : 0;
                case '&': return left != 0 && right != 0 ? 1 : 0;
                case '<': return left < right ? 1 : 0;
                case '=': return left == right ? 1 : 0;
                case '>': return left > right ? 1 : 0;
                case '+': return left + right;
                case '-': return left - right;
                case '*': return left * right;
                case '/': return right == 0 ? 0 : left / right;
                default: return right == 0 ? 0 : left % right;
            }
        }
    }

    /** One toad in thought: he begins as one in the quarry is, and centuries pass for him alone. */
    private static final class Thinker {
        private static final int NONE = -1;

        private final Quarry quarry;
        private final Law law;
        private int number, bed, at, century, openNow, otherThought, otherLeads;
        private boolean open;

        Thinker(Quarry quarry, Law law) {
            this.quarry = quarry;
            this.law = law;
        }

        void begin(int block) {
            number = block;
            bed = quarry.told(block, BED);
            at = quarry.told(block, AT);
            open = quarry.isOpen(block);
            century = quarry.centuryNow();
            openNow = quarry.openOnes();
            otherThought = NONE;
        }

        void supposeAt(int thought) {
            at = thought;
        }

        void supposeBed(int itsBed) {
            bed = itsBed;
        }

        void supposeLeads(int thought, int to) {
            otherThought = thought;
            otherLeads = to;
        }

        void beOpen() {
            open = true;
        }

        boolean isOpened() {
            return open;
        }

        int place() {
            return at;
        }

        int wouldSay() {
            return quarry.wordAt(at);
        }

        int goesOnNow() {
            return law.thoughts(bed, at, wouldSay(), number, openNow, century);
        }

        void passCenturies(int n) {
            for (int c = 0; c < n; c++) passCentury(openNow);
        }

        void passCentury(int openOnes) {
            int thoughts = open ? 0 : law.thoughts(bed, at, wouldSay(), number, openOnes, century);
            for (int t = 0; t < thoughts; t++) {
                at = at == otherThought ? otherLeads : quarry.leadsFrom(at);
            }
            century = Math.min(century + 1, LAST_CENTURY);
        }
    }

    /** Where each is behind so many centuries in which nobody is opened; books that tell it; a change that leads there. */
    private static final class Foresight {
        private final Quarry quarry;
        private final Thinker one, other;

        Foresight(Quarry quarry, Law law) {
            this.quarry = quarry;
            one = new Thinker(quarry, law);
            other = new Thinker(quarry, law);
        }

        int thoughtsNow(int block) {
            one.begin(block);
            return one.goesOnNow();
        }

        int atBehind(int n, int block) {
            one.begin(block);
            one.passCenturies(n);
            return one.place();
        }

        int thoughtsBehind(int n) {
            int bits = 0;
            for (int b = 0; b < quarry.size(); b++) {
                if (!quarry.isOpen(b)) bits |= 1 << atBehind(n, b);
            }
            return bits;
        }

        int firstAt(int block, int thought) {
            one.begin(block);
            for (int n = 0; n <= BEHIND_MOST; n++) {
                if (one.place() == thought) return n;
                one.passCenturies(1);
            }
            return NOT;
        }

        int firstTogether(int block, int another) {
            one.begin(block);
            other.begin(another);
            for (int n = 0; n <= BEHIND_MOST; n++) {
                if (one.place() == other.place()) return n;
                one.passCenturies(1);
                other.passCenturies(1);
            }
            return NOT;
        }

        int judged(Shelf book, int block) {
            one.begin(block);
            return firstNotSo(book);
        }

        int fittingThoughts(Shelf book, int block) {
            int bits = 0;
            for (int t = 0; t < THOUGHTS; t++) {
                one.begin(block);
                one.supposeAt(t);
                if (firstNotSo(book) == NOT) bits |= 1 << t;
            }
            return bits;
        }

        int fittingBeds(Shelf book, int block) {
            int bits = 0;
            for (int b = 0; b < BEDS; b++) {
                one.begin(block);
                one.supposeBed(b);
                if (firstNotSo(book) == NOT) bits |= 1 << b;
            }
            return bits;
        }

        private int firstNotSo(Shelf book) {
            for (int n = 0; n < book.size() && n < BOOK_MOST; n++) {
                long told = book.at(n);
                if (told != WORDS && told != one.wouldSay()) return n;
                one.passCenturies(1);
            }
            return NOT;
        }

        int leastChange(int block, int n, int thought) {
            if (atBehind(n, block) == thought) return NO_CHANGE;
            for (int from = 0; from < THOUGHTS; from++) {
                for (int to = 0; to < THOUGHTS; to++) {
                    if (to != quarry.leadsFrom(from) && atBehindIf(n, block, from, to) == thought) return from << 4 | to;
                }
            }
            return NOT;
        }

        private int atBehindIf(int n, int block, int from, int to) {
            one.begin(block);
            one.supposeLeads(from, to);
            one.passCenturies(n);
            return one.place();
        }
    }

    /** Those who open blocks, in thought: whom, in which order, by turns, by chance. */
    private static final class Masons {
        private final Quarry quarry;
        private final Thinker thinker;
        // The word of each block behind 0 .. 3 centuries, if one is opened ahead of each of them.
        private final int[] said = new int[OPENINGS_MOST * BLOCKS];
        private final int[] order = new int[OPENINGS_MOST], bestOrder = new int[OPENINGS_MOST];
        private int orderLength, mostWords;

        Masons(Quarry quarry, Law law) {
            this.quarry = quarry;
            thinker = new Thinker(quarry, law);
        }

        int closedOnes() {
            return quarry.size() - quarry.openOnes();
        }

        int sayers(int word) {
            int many = 0;
            for (int b = 0; b < quarry.size(); b++) {
                if (!quarry.isOpen(b) && quarry.wordNow(b) == word) many++;
            }
            return many;
        }

        int pairs() {
            return closedOnes() * (closedOnes() - 1) / 2;
        }

        int likePairs() {
            int many = 0;
            for (int w = 0; w < WORDS; w++) many += sayers(w) * (sayers(w) - 1) / 2;
            return many;
        }

        private int closedBits() {
            int bits = 0;
            for (int b = 0; b < quarry.size(); b++) {
                if (!quarry.isOpen(b)) bits |= 1 << b;
            }
            return bits;
        }

        /** The blocks as bits; NOT. */
        int fewestThatSay(int words) {
            int closed = closedBits(), best = NOT;
            for (int some = 0; some < 1 << quarry.size(); some++) {
                boolean fewer = best == NOT || Integer.bitCount(some) < Integer.bitCount(best);
                if ((some & ~closed) == 0 && fewer && (words & ~wordsOf(some)) == 0) best = some;
            }
            return best;
        }

        private int wordsOf(int some) {
            int words = 0;
            for (int b = 0; b < quarry.size(); b++) {
                if ((some >> b & 1) == 1) words |= 1 << quarry.wordNow(b);
            }
            return words;
        }

        int mostUnlike(int k) {
            seekBestOrder(k);
            return mostWords;
        }

        int openedInOrder(int k, int i) {
            seekBestOrder(k);
            return i >= 0 && i < orderLength ? bestOrder[i] : NOT;
        }

        private void seekBestOrder(int k) {
            orderLength = Math.min(Math.min(k, closedOnes()), OPENINGS_MOST);
            mostWords = -1;
            for (int b = 0; b < quarry.size(); b++) foretell(b);
            tryOrders(0, closedBits(), 0);
        }

        // Who is opened counts for the others by how many are open alone, so one telling serves all orders.
        private void foretell(int block) {
            thinker.begin(block);
            int openOnes = quarry.openOnes();
            for (int c = 0; c < OPENINGS_MOST; c++) {
                said[c * BLOCKS + block] = thinker.wouldSay();
                openOnes++;
                thinker.passCentury(openOnes);
            }
        }

        private void tryOrders(int depth, int closed, int words) {
            if (depth >= orderLength) {
                keepIfBetter(Integer.bitCount(words));
                return;
            }
            for (int b = 0; b < quarry.size(); b++) {
                if ((closed >> b & 1) == 1) {
                    order[depth] = b;
                    tryOrders(depth + 1, closed & ~(1 << b), words | 1 << said[depth * BLOCKS + b]);
                }
            }
        }

        private void keepIfBetter(int unlike) {
            if (unlike <= mostWords) return;
            mostWords = unlike;
            System.arraycopy(order, 0, bestOrder, 0, orderLength);
        }

        int gainOf(int turns) {
            return bestGain(turns, closedBits());
        }

        int firstChoice(int turns) {
            int closed = closedBits(), best = gainOf(turns);
            for (int b = 0; b < quarry.size(); b++) {
                if ((closed >> b & 1) == 1 && gainBy(b, turns, closed) == best) return b;
            }
            return NOBODY;
        }

        // What the one whose turn it is has more than the other in the end; 0 if nobody is there.
        private int bestGain(int turns, int closed) {
            if (turns <= 0 || closed == 0) return 0;
            int best = VOID;
            for (int b = 0; b < quarry.size(); b++) {
                if ((closed >> b & 1) == 1) best = Math.max(best, gainBy(b, turns, closed));
            }
            return best;
        }

        private int gainBy(int block, int turns, int closed) {
            return quarry.wordNow(block) - bestGain(turns - 1, closed & ~(1 << block));
        }
    }

    /** Ages in thought in which blocks are opened by draws. */
    private static final class Ages {
        private static final int ZEAL_OF = 12;

        private final Quarry quarry;
        private final Thinker[] thinkers = new Thinker[BLOCKS];
        private final int[] timesOpen = new int[BLOCKS];
        private int z, zeal, openOnes, said;

        Ages(Quarry quarry, Law law) {
            this.quarry = quarry;
            for (int b = 0; b < BLOCKS; b++) thinkers[b] = new Thinker(quarry, law);
        }

        int said() {
            return said;
        }

        int timesOpen(int block) {
            return within(block, 0, BLOCKS - 1) ? timesOpen[block] : 0;
        }

        void pass(int seed, int n, int centuries, int itsZeal) {
            z = seed;
            zeal = itsZeal;
            said = 0;
            Arrays.fill(timesOpen, 0);
            for (int age = 0; age < n; age++) {
                passAge(centuries);
                for (int b = 0; b < quarry.size(); b++) {
                    if (thinkers[b].isOpened()) timesOpen[b]++;
                }
            }
        }

        private void passAge(int centuries) {
            for (int b = 0; b < quarry.size(); b++) thinkers[b].begin(b);
            openOnes = quarry.openOnes();
            for (int c = 0; c < centuries; c++) {
                z = z * 1103515245 + 12345;
                openDrawn();
                for (int b = 0; b < quarry.size(); b++) thinkers[b].passCentury(openOnes);
            }
        }

        private void openDrawn() {
            if (quarry.size() == 0 || (z >>> 16) % ZEAL_OF >= zeal) return;
            Thinker drawn = thinkers[(z >>> 8) % quarry.size()];
            if (drawn.isOpened()) return;
            drawn.beOpen();
            said += drawn.wouldSay();
            openOnes++;
        }
    }

    /** Centuries, openings, hours in deed, what is led of them, and the image. */
    private static final class Deeds {
        static final int CENTURIES = 0, OPENED = 1, SAID = 2, UNLIKE = 3, DIED = 4, TOLD = 5;

        private final Quarry quarry;
        private final Thinker thinker;
        private final int[] counts = new int[TOLD], keptCounts = new int[TOLD];
        // AT, LIVES, OPEN, DEAD, one behind the other.
        private final int[] kept = new int[4 * BLOCKS];
        private int keptBlocks, keptCentury;
        private boolean isKept;

        Deeds(Quarry quarry, Law law) {
            this.quarry = quarry;
            thinker = new Thinker(quarry, law);
        }

        int tell(int what) {
            return within(what, 0, TOLD - 1) ? counts[what] : BAD;
        }

        int passCentury() {
            for (int b = 0; b < quarry.size(); b++) {
                thinker.begin(b);
                thinker.passCenturies(1);
                quarry.become(b, AT, thinker.place());
            }
            quarry.become(0, CENTURY, Math.min(quarry.centuryNow() + 1, LAST_CENTURY));
            counts[CENTURIES]++;
            return quarry.centuryNow();
        }

        int openOne(int block) {
            int word = quarry.wordNow(block);
            quarry.become(block, OPEN, 1);
            counts[OPENED]++;
            counts[SAID] += word;
            counts[UNLIKE] |= 1 << word;
            return word;
        }

        int passHours(int n) {
            int died = 0;
            for (int b = 0; b < quarry.size(); b++) {
                if (quarry.isOpen(b) && quarry.told(b, DEAD) == 0) {
                    int left = Math.max(0, quarry.told(b, LIVES) - n);
                    quarry.become(b, LIVES, left);
                    if (left == 0) {
                        quarry.become(b, DEAD, 1);
                        died++;
                    }
                }
            }
            counts[DIED] += died;
            return died;
        }

        boolean hasImage() {
            return isKept;
        }

        void keepImage() {
            isKept = true;
            keptBlocks = quarry.size();
            keptCentury = quarry.centuryNow();
            System.arraycopy(counts, 0, keptCounts, 0, TOLD);
            for (int what = AT; what <= DEAD; what++) {
                System.arraycopy(quarry.numbers(what), 0, kept, (what - AT) * BLOCKS, keptBlocks);
            }
        }

        void layImageBack() {
            quarry.become(0, CENTURY, keptCentury);
            System.arraycopy(keptCounts, 0, counts, 0, TOLD);
            for (int what = AT; what <= DEAD; what++) {
                System.arraycopy(kept, (what - AT) * BLOCKS, quarry.numbers(what), 0, keptBlocks);
            }
        }
    }

    /** What was mended, to be undone and done again. */
    private static final class Changes {
        private static final int MOST = 40;

        private final Quarry quarry;
        private final int[] numbers = new int[MOST], whats = new int[MOST];
        private final int[] before = new int[MOST], after = new int[MOST];
        private int done, undone;

        Changes(Quarry quarry) {
            this.quarry = quarry;
        }

        int mayBeUndone() {
            return done;
        }

        int mayBeRedone() {
            return undone;
        }

        void remember(int number, int what, int was, int is) {
            if (done >= MOST) forgetOldest();
            numbers[done] = number;
            whats[done] = what;
            before[done] = was;
            after[done] = is;
            done++;
            undone = 0;
        }

        private void forgetOldest() {
            done = MOST - 1;
            System.arraycopy(numbers, 1, numbers, 0, done);
            System.arraycopy(whats, 1, whats, 0, done);
            System.arraycopy(before, 1, before, 0, done);
            System.arraycopy(after, 1, after, 0, done);
        }

        int undoLatest() {
            if (done <= 0) return STATE;
            done--;
            undone++;
            quarry.become(numbers[done], whats[done], before[done]);
            return done;
        }

        int redoNext() {
            if (undone <= 0 || done >= MOST) return STATE;
            quarry.become(numbers[done], whats[done], after[done]);
            done++;
            undone--;
            return undone;
        }
    }

    /** Toads of kinds, whose acts come from their own kind or from above, and the trace of the bodies that ran. */
    private static final class Bodies {
        private static final int MOST = 50, TRACE_MOST = 24, DEPTH_MOST = 40, KINDS = 8, ACTS = 4, NO_KIND = -1;
        private static final int MASON = 1, LIAS = 2, PROOF = 3, DEAN = 4, SLAB = 5, SAUCER = 6, BISHOP = 7;
        private static final int THINKS = 0, SAYS = 1, BLINKS = 2, TELLS = 3;
        private static final int[] ABOVE = {NO_KIND, 0, 0, LIAS, MASON, PROOF, 0, DEAN};
        // The body of each act (thinks, says, blinks, tells) that a kind has of its own; 0: none.
        private static final int[] OWN = {
            1, 10, 11, 2,
            20, 0, 0, 0,
            0, 30, 0, 0,
            0, 41, 40, 0,
            0, 0, 50, 0,
            0, 0, 0, 60,
            70, 0, 0, 0,
            0, 80, 0, 81};

        private final int[] kinds = new int[MOST], trace = new int[TRACE_MOST];
        private int size, ran, self;

        int size() {
            return size;
        }

        int ran() {
            return ran;
        }

        boolean isFull() {
            return size >= MOST;
        }

        boolean has(int toad) {
            return within(toad, 0, size - 1);
        }

        static boolean isKind(int kind) {
            return within(kind, 0, KINDS - 1);
        }

        int add(int kind) {
            if (isFull()) return FULL;
            kinds[size] = kind;
            size++;
            return size - 1;
        }

        int kindOf(int toad) {
            return has(toad) ? kinds[toad] : NO_KIND;
        }

        static boolean isUnder(int kind, int told) {
            int k = kind;
            for (int up = 0; up < KINDS && isKind(k); up++) {
                if (k == told) return true;
                k = ABOVE[k];
            }
            return false;
        }

        int traced(int i) {
            return within(i, 0, Math.min(ran, TRACE_MOST) - 1) ? trace[i] : BAD;
        }

        int perform(int toad, int act, int x) {
            ran = 0;
            if (!has(toad) || !within(act, 0, ACTS - 1)) return 0;
            self = toad;
            return own(act, x, 0);
        }

        private int own(int act, int x, int depth) {
            return runFrom(kindOf(self), act, x, depth);
        }

        private int above(int kind, int act, int x, int depth) {
            return isKind(kind) ? runFrom(ABOVE[kind], act, x, depth) : 0;
        }

        private int runFrom(int kind, int act, int x, int depth) {
            if (depth > DEPTH_MOST) return 0;
            int k = kind;
            for (int up = 0; up < KINDS && isKind(k); up++) {
                int body = OWN[k * ACTS + act];
                if (body != 0) return run(body, x, depth + 1);
                k = ABOVE[k];
            }
            return 0;
        }

        private int run(int body, int x, int depth) {
            if (ran < TRACE_MOST) trace[ran] = body;
            ran++;
            switch (body) {
                case 1: return x + self;
                case 2: return own(SAYS, x, depth) - own(BLINKS, 1, depth);
                case 10: return own(THINKS, x, depth) * 2;
                case 11: return x ^ self;
                case 20: return above(MASON, THINKS, x, depth) + 3;
                case 30: return -above(LIAS, SAYS, x, depth);
                case 40: return above(PROOF, BLINKS, x, depth) * 3;
                case 41: return above(PROOF, SAYS, x + 1, depth);
                case 50: return above(DEAN, BLINKS, x, depth) - own(THINKS, 2, depth);
                case 60: return above(SLAB, TELLS, x, depth) ^ 5;
                case 70: return above(SAUCER, THINKS, x, depth) * 2;
                case 80: return above(BISHOP, SAYS, x, depth) + own(BLINKS, 2, depth);
                case 81: return above(BISHOP, TELLS, x, depth) - 1;
                default: return 0;
            }
        }
    }

    /** A shelf: nothing, a toad, or a row of some sort. */
    private static final class Shelf {
        static final int MOST = 60;
        private static final int BYTES = 0, SHORTS = 1, INTS = 2, LONGS = 3, BOOLEANS = 4;
        private static final int NOTHING = 0, TOAD = 1, ROW = 2;

        private final long[] elements = new long[MOST];
        private int holds, toad, sort, size;

        static boolean isSort(int sort) {
            return within(sort, BYTES, BOOLEANS);
        }

        boolean isBare() {
            return holds == NOTHING;
        }

        boolean isRow() {
            return holds == ROW;
        }

        boolean isRowOfBytes() {
            return holds == ROW && sort == BYTES;
        }

        int sort() {
            return sort;
        }

        int size() {
            return size;
        }

        int toad() {
            return toad;
        }

        void clear() {
            holds = NOTHING;
        }

        void holdToad(int itsToad) {
            holds = TOAD;
            toad = itsToad;
        }

        void holdRow(int itsSort, int itsSize) {
            holds = ROW;
            sort = itsSort;
            size = Math.max(0, Math.min(itsSize, MOST));
            Arrays.fill(elements, 0L);
        }

        long at(int i) {
            return within(i, 0, size - 1) ? elements[i] : 0L;
        }

        void set(int i, long v) {
            if (within(i, 0, size - 1)) elements[i] = cut(v);
        }

        private long cut(long v) {
            switch (sort) {
                case BYTES: return (byte) v;
                case SHORTS: return (short) v;
                case INTS: return (int) v;
                case LONGS: return v;
                default: return v != 0 ? 1 : 0;
            }
        }

        boolean hasPlaces(int i, int n) {
            return i >= 0 && n >= 0 && n <= size && i <= size - n;
        }

        void copy(Shelf from, int i, int j, int n) {
            if (from.hasPlaces(i, n) && hasPlaces(j, n)) System.arraycopy(from.elements, i, elements, j, n);
        }
    }
}
