/**
 * Wishes over trees of futures, as DOC.md promises them. Sets of worlds are
 * masks (bit k for the world k). All rows are made with the object, so that
 * no call makes anything but the exception that it throws.
 */
public final class FutureWishes {
    public static final int NONE = -1;

    private static final int MOST_WORLDS = 10;
    private static final int LETTERS = 4;
    private static final int ALL_LETTERS = 15;
    private static final int WISHES = 4;
    private static final int MOST_SIGNS = 40;
    private static final int MOST_CHARACTERS = 60;
    private static final int MOST_SAVED = 6;
    private static final int FIRST_CODE = 33;
    private static final int LAST_CODE = 126;

    /** At most 11 legs of at most 10 steps each, and the world before them. */
    private static final int LONGEST_WITNESS = 111;

    private static final int MOST_WORLD_LOOK = 4;
    private static final int MOST_WISH_LOOK = 3;
    private static final int MOST_SIGN_LOOK = 3;
    private static final int MOST_COUNT_LOOK = 8;
    private static final int MOST_FIX_LOOK = 3;

    private static final long DIGEST_START = 2621L;
    private static final long DIGEST_FACTOR = 31L;
    private static final int DIGEST_PLACES = 4;

    private static final int DOUBLE_BIAS = 1023;
    private static final int DOUBLE_FRACTION_BITS = 52;

    private final State state;
    private final History history;
    private final Text text;
    private final Meaning meaning;
    private final Witness way;
    private final Trial trial;

    public FutureWishes() {
        state = new State();
        history = new History();
        text = new Text();
        meaning = new Meaning(state);
        way = new Witness(meaning);
        trial = new Trial();
    }

    // ---- worlds

    public int addWorld(int letters) throws IllegalArgumentException, IllegalStateException {
        if (letters < 0 || letters > ALL_LETTERS) {
            throw new IllegalArgumentException("letters are a mask from 0 to 15");
        }
        if (state.worlds >= MOST_WORLDS) {
            throw new IllegalStateException("there are 10 worlds");
        }
        history.save(state);
        return state.putWorld(letters);
    }

    public int removeWorld(int world) throws IndexOutOfBoundsException {
        needWorld(world);
        history.save(state);
        state.dropWorld(world);
        return state.worlds;
    }

    public int step(int from, int to) throws IndexOutOfBoundsException {
        needWorld(from);
        needWorld(to);
        history.save(state);
        state.turnStep(from, to);
        return (state.stepsFrom(from) >> to) & 1;
    }

    public int flip(int world, int letter) throws IndexOutOfBoundsException, IllegalArgumentException {
        needWorld(world);
        if (letter < 0 || letter >= LETTERS) {
            throw new IllegalArgumentException("a letter is 0 to 3");
        }
        history.save(state);
        state.turnLetter(world, letter);
        return state.lettersOf(world);
    }

    public int fair(int letter) throws IllegalArgumentException {
        needLetterOrNone(letter);
        history.save(state);
        int previous = state.fairLetter;
        state.fairLetter = letter;
        return previous;
    }

    public int ring() {
        history.save(state);
        state.closeRing();
        return state.countSteps();
    }

    // ---- wishes, texts

    public int append(int code) throws IllegalArgumentException, IllegalStateException {
        if (code < FIRST_CODE || code > LAST_CODE) {
            throw new IllegalArgumentException("a character code is 33 to 126");
        }
        if (text.length >= MOST_CHARACTERS) {
            throw new IllegalStateException("the buffer has 60 characters");
        }
        text.put((char) code);
        return text.length;
    }

    public int clearBuffer() {
        int previous = text.length;
        text.length = 0;
        return previous;
    }

    public int firstError() {
        return text.firstFault();
    }

    public int read(int wish) throws IndexOutOfBoundsException, IllegalArgumentException {
        needWish(wish);
        if (!text.isWish()) {
            throw new IllegalArgumentException("the buffer is not a complete wish");
        }
        history.save(state);
        state.putWish(wish, text);
        text.length = 0;
        return state.lengthOf(wish);
    }

    public int negate(int wish) throws IndexOutOfBoundsException, IllegalStateException {
        needWish(wish);
        boolean negated = state.signAt(wish, 0) == '!';
        int length = state.lengthOf(wish);
        if (length == 0 || !negated && length >= MOST_SIGNS) {
            throw new IllegalStateException("there is no such wish at present, or it has 40 signs");
        }
        history.save(state);
        if (negated) {
            state.dropNot(wish);
        } else {
            state.putNot(wish);
        }
        return state.lengthOf(wish);
    }

    public int giveUp(int wish) throws IndexOutOfBoundsException {
        needWish(wish);
        history.save(state);
        return state.dropWish(wish);
    }

    public int undo() throws IllegalStateException {
        if (history.size == 0) {
            throw new IllegalStateException("there is no saved state");
        }
        history.restore(state);
        return history.size;
    }

    // ---- looks; nothing is changed

    public int world(int world, int what) throws IndexOutOfBoundsException, IllegalArgumentException {
        needWorld(world);
        needLook(what, MOST_WORLD_LOOK);
        switch (what) {
            case 0:
                return state.lettersOf(world);
            case 1:
                return state.stepsFrom(world);
            case 2:
                return state.leadingInto(1 << world);
            case 3:
                return (meaning.live() >> world) & 1;
            default:
                return wishesHoldingIn(world);
        }
    }

    public int wish(int wish, int what) throws IndexOutOfBoundsException, IllegalArgumentException {
        needWish(wish);
        needLook(what, MOST_WISH_LOOK);
        meaning.find(wish);
        return meaning.ofWish(what);
    }

    public int sign(int wish, int sign, int what) throws IndexOutOfBoundsException, IllegalArgumentException {
        needWish(wish);
        if (sign < 0 || sign >= state.lengthOf(wish)) {
            throw new IndexOutOfBoundsException("the wish has no such sign");
        }
        needLook(what, MOST_SIGN_LOOK);
        meaning.find(wish);
        return meaning.ofSign(sign, what);
    }

    public int witness(int wish, int world, int place) throws IndexOutOfBoundsException, IllegalArgumentException {
        needWish(wish);
        needWorld(world);
        if (place < 0) {
            throw new IllegalArgumentException("a place is not below 0");
        }
        meaning.find(wish);
        way.find(world);
        return way.at(place);
    }

    public int compare(int one, int other) throws IndexOutOfBoundsException {
        needWish(one);
        needWish(other);
        if (state.lengthOf(one) == 0 || state.lengthOf(other) == 0) {
            return NONE;
        }
        int first = meaning.find(one);
        int second = meaning.find(other);
        if (first == second) {
            return 0;
        }
        if ((first & second) == first) {
            return 1;
        }
        return (first & second) == second ? 2 : 3;
    }

    public int count(int what) throws IllegalArgumentException {
        needLook(what, MOST_COUNT_LOOK);
        switch (what) {
            case 0:
                return state.worlds;
            case 1:
                return state.countSteps();
            case 2:
                return Integer.bitCount(meaning.live());
            case 3:
                return state.worlds - Integer.bitCount(state.leadingInto(state.allWorlds()));
            case 4:
                return state.fairLetter;
            case 5:
                return state.countWishes();
            case 6:
                return state.countSigns();
            case 7:
                return Integer.bitCount(worldsOfAllWishes());
            default:
                return history.size;
        }
    }

    // ---- what would be; nothing is changed

    public int fixes(int wish, int world, int what) throws IndexOutOfBoundsException, IllegalArgumentException {
        needWish(wish);
        needWorld(world);
        needLook(what, MOST_FIX_LOOK);
        if (what < 2) {
            trial.flips(state, wish, world);
        } else {
            trial.turns(state, wish, world);
        }
        return (what & 1) == 0 ? trial.number : trial.first;
    }

    public int ifFair(int wish, int letter) throws IndexOutOfBoundsException, IllegalArgumentException {
        needWish(wish);
        needLetterOrNone(letter);
        return trial.worldsIfFair(state, wish, letter);
    }

    public double fulfilled() {
        int pairs = 0;
        int holding = 0;
        for (int wish = 0; wish < WISHES; wish++) {
            if (state.lengthOf(wish) > 0) {
                pairs += state.worlds;
                holding += Integer.bitCount(meaning.find(wish));
            }
        }
        return pairs == 0 ? 1.0 : (double) holding / (double) pairs;
    }

    public long digest() {
        long hash = DIGEST_START;
        for (int what = 0; what <= MOST_COUNT_LOOK; what++) {
            hash = mixed(hash, count(what));
        }
        for (int world = 0; world < state.worlds; world++) {
            for (int what = 0; what <= MOST_WORLD_LOOK; what++) {
                hash = mixed(hash, world(world, what));
            }
        }
        for (int wish = 0; wish < WISHES; wish++) {
            meaning.find(wish);
            hash = mixedSigns(hash);
            for (int world = 0; world < state.worlds; world++) {
                way.find(world);
                hash = mixedWitness(hash);
            }
            hash = mixed(hash, compare(wish, 0));
            hash = mixed(hash, ifFair(wish, NONE));
            hash = mixed(hash, ifFair(wish, 0));
            if (state.worlds > 0) {
                hash = mixedFixes(hash, wish);
            }
        }
        hash = mixed(hash, bitsOfShare(fulfilled()));
        hash = mixed(hash, text.length);
        for (int place = 0; place < text.length; place++) {
            hash = mixed(hash, text.at(place));
        }
        return hash;
    }

    // ---- what several calls share

    private void needWorld(int world) {
        if (!state.hasWorld(world)) {
            throw new IndexOutOfBoundsException("there is no such world");
        }
    }

    private static void needWish(int wish) {
        if (wish < 0 || wish >= WISHES) {
            throw new IndexOutOfBoundsException("a wish is 0 to 3");
        }
    }

    private static void needLetterOrNone(int letter) {
        if (letter != NONE && (letter < 0 || letter >= LETTERS)) {
            throw new IllegalArgumentException("a letter is 0 to 3, or NONE");
        }
    }

    private static void needLook(int what, int most) {
        if (what < 0 || what > most) {
            throw new IllegalArgumentException("there is no such property");
        }
    }

    private int wishesHoldingIn(int world) {
        int holding = 0;
        for (int wish = 0; wish < WISHES; wish++) {
            if (state.lengthOf(wish) > 0) {
                holding |= ((meaning.find(wish) >> world) & 1) << wish;
            }
        }
        return holding;
    }

    private int worldsOfAllWishes() {
        int common = state.allWorlds();
        for (int wish = 0; wish < WISHES; wish++) {
            if (state.lengthOf(wish) > 0) {
                common &= meaning.find(wish);
            }
        }
        return common;
    }

    private static long mixed(long hash, long value) {
        return DIGEST_FACTOR * hash + value;
    }

    /** Mixes in the wish that the meaning holds, and its signs. */
    private long mixedSigns(long start) {
        long hash = start;
        for (int what = 0; what <= MOST_WISH_LOOK; what++) {
            hash = mixed(hash, meaning.ofWish(what));
        }
        for (int sign = 0; sign < meaning.length; sign++) {
            for (int what = 0; what <= MOST_SIGN_LOOK; what++) {
                hash = mixed(hash, meaning.ofSign(sign, what));
            }
        }
        return hash;
    }

    private long mixedWitness(long start) {
        long hash = start;
        for (int place = 0; place < DIGEST_PLACES; place++) {
            hash = mixed(hash, way.at(place));
        }
        return hash;
    }

    /** Mixes in fixes(wish, 0, 0 to 3), each two of which come from one trial. */
    private long mixedFixes(long start, int wish) {
        trial.flips(state, wish, 0);
        long hash = mixed(mixed(start, trial.number), trial.first);
        trial.turns(state, wish, 0);
        return mixed(mixed(hash, trial.number), trial.first);
    }

    /**
     * The bits of a share from 0.0 to 1.0. They are worked out here because
     * LANGUAGE.md leaves no class Double; doubling is exact, so they are those
     * of Double.doubleToLongBits.
     */
    private static long bitsOfShare(double share) {
        if (share <= 0.0) {
            return 0L;
        }
        double scaled = share;
        long exponent = DOUBLE_BIAS;
        for (int k = 0; k < DOUBLE_BIAS && scaled < 1.0; k++) {
            scaled = scaled * 2.0;
            exponent--;
        }
        long fraction = (long) ((scaled - 1.0) * (double) (1L << DOUBLE_FRACTION_BITS));
        return (exponent << DOUBLE_FRACTION_BITS) + fraction;
    }

    /** What undo brings back: the worlds, their steps, the fair letter, the wishes. */
    private static final class State {
        int worlds = 0;
        int fairLetter = NONE;
        private final int[] letters = new int[MOST_WORLDS];
        private final int[] steps = new int[MOST_WORLDS];
        private final int[] lengths = new int[WISHES];
        private final char[] signs = new char[WISHES * MOST_SIGNS];

        void copyFrom(State other) {
            worlds = other.worlds;
            fairLetter = other.fairLetter;
            System.arraycopy(other.letters, 0, letters, 0, MOST_WORLDS);
            System.arraycopy(other.steps, 0, steps, 0, MOST_WORLDS);
            System.arraycopy(other.lengths, 0, lengths, 0, WISHES);
            System.arraycopy(other.signs, 0, signs, 0, WISHES * MOST_SIGNS);
        }

        boolean hasWorld(int world) {
            return world >= 0 && world < worlds;
        }

        int allWorlds() {
            return (1 << worlds) - 1;
        }

        int lettersOf(int world) {
            return world >= 0 && world < worlds ? letters[world] : 0;
        }

        int stepsFrom(int world) {
            return world >= 0 && world < worlds ? steps[world] : 0;
        }

        int withLetter(int letter) {
            int set = 0;
            for (int world = 0; world < worlds; world++) {
                set |= ((letters[world] >> letter) & 1) << world;
            }
            return set;
        }

        /** The worlds from which a step leads into a set. */
        int leadingInto(int set) {
            int found = 0;
            for (int world = 0; world < worlds; world++) {
                if ((steps[world] & set) != 0) {
                    found |= 1 << world;
                }
            }
            return found;
        }

        int countSteps() {
            int number = 0;
            for (int world = 0; world < worlds; world++) {
                number += Integer.bitCount(steps[world]);
            }
            return number;
        }

        int putWorld(int given) {
            int number = worlds;
            if (number < MOST_WORLDS) {
                letters[number] = given;
                steps[number] = 0;
                worlds = number + 1;
            }
            return number;
        }

        void dropWorld(int world) {
            if (!hasWorld(world)) {
                return;
            }
            for (int k = world; k + 1 < worlds; k++) {
                letters[k] = letters[k + 1];
                steps[k] = steps[k + 1];
            }
            worlds--;
            for (int k = 0; k < worlds; k++) {
                int below = steps[k] & ((1 << world) - 1);
                steps[k] = below | (steps[k] >> (world + 1) << world);
            }
        }

        void turnStep(int from, int to) {
            if (hasWorld(from) && hasWorld(to)) {
                steps[from] ^= 1 << to;
            }
        }

        void turnLetter(int world, int letter) {
            if (hasWorld(world)) {
                letters[world] ^= 1 << letter;
            }
        }

        void closeRing() {
            for (int world = 0; world < worlds; world++) {
                int next = world + 1 < worlds ? world + 1 : 0;
                steps[world] |= 1 << next;
            }
        }

        int lengthOf(int wish) {
            return wish >= 0 && wish < WISHES ? lengths[wish] : 0;
        }

        /** The sign's character, or 0 if there is no such sign. */
        char signAt(int wish, int sign) {
            return sign >= 0 && sign < lengthOf(wish) ? signs[wish * MOST_SIGNS + sign] : (char) 0;
        }

        private void putSign(int wish, int sign, char character) {
            if (wish >= 0 && wish < WISHES && sign >= 0 && sign < MOST_SIGNS) {
                signs[wish * MOST_SIGNS + sign] = character;
            }
        }

        private void putLength(int wish, int length) {
            if (wish >= 0 && wish < WISHES && length >= 0 && length <= MOST_SIGNS) {
                lengths[wish] = length;
            }
        }

        void putWish(int wish, Text text) {
            for (int sign = 0; sign < text.length; sign++) {
                putSign(wish, sign, text.at(sign));
            }
            putLength(wish, text.length);
        }

        void putNot(int wish) {
            int length = lengthOf(wish);
            for (int sign = length; sign > 0; sign--) {
                putSign(wish, sign, signAt(wish, sign - 1));
            }
            putSign(wish, 0, '!');
            putLength(wish, length + 1);
        }

        void dropNot(int wish) {
            int length = lengthOf(wish);
            for (int sign = 1; sign < length; sign++) {
                putSign(wish, sign - 1, signAt(wish, sign));
            }
            putLength(wish, length - 1);
        }

        int dropWish(int wish) {
            int previous = lengthOf(wish);
            putLength(wish, 0);
            return previous;
        }

        int countWishes() {
            int number = 0;
            for (int wish = 0; wish < WISHES; wish++) {
                number += lengthOf(wish) > 0 ? 1 : 0;
            }
            return number;
        }

        int countSigns() {
            int number = 0;
            for (int wish = 0; wish < WISHES; wish++) {
                number += lengthOf(wish);
            }
            return number;
        }
    }

    /** The saved states, in a ring of objects that are used again. */
    private static final class History {
        int size = 0;
        private int oldest = 0;
        private final State[] saved = new State[MOST_SAVED];

        History() {
            for (int k = 0; k < MOST_SAVED; k++) {
                saved[k] = new State();
            }
        }

        void save(State state) {
            if (size == MOST_SAVED) {
                oldest = (oldest + 1) % MOST_SAVED;
                size--;
            }
            saved[(oldest + size) % MOST_SAVED].copyFrom(state);
            size++;
        }

        void restore(State state) {
            if (size > 0) {
                size--;
                state.copyFrom(saved[(oldest + size) % MOST_SAVED]);
            }
        }
    }

    /** The buffer, and its reading from left to right. */
    private static final class Text {
        int length = 0;
        private final char[] characters = new char[MOST_CHARACTERS];

        /** How many wishes have yet to come in what was read. */
        private int open = 1;

        /** Whether an "E" or "A" was read, and its second sign was not. */
        private boolean halfWay = false;

        void put(char character) {
            if (length >= 0 && length < MOST_CHARACTERS) {
                characters[length] = character;
                length++;
            }
        }

        char at(int place) {
            return place >= 0 && place < length ? characters[place] : (char) 0;
        }

        boolean isWish() {
            return firstFault() == length && open == 0;
        }

        int firstFault() {
            open = 1;
            halfWay = false;
            for (int place = 0; place < length; place++) {
                if (!takes(at(place)) || place + 1 + leastRest() > MOST_SIGNS) {
                    return place;
                }
            }
            return length;
        }

        /** The fewest signs that complete what was read: a letter for each open wish. */
        private int leastRest() {
            return open + (halfWay ? 1 : 0);
        }

        private boolean takes(char character) {
            if (halfWay) {
                return takesSecond(character);
            }
            return open > 0 && takesFirst(character);
        }

        private boolean takesSecond(char character) {
            halfWay = false;
            switch (character) {
                case 'U':
                    open++;
                    return true;
                case 'X':
                case 'F':
                case 'G':
                    return true;
                default:
                    return false;
            }
        }

        private boolean takesFirst(char character) {
            switch (character) {
                case 'a':
                case 'b':
                case 'c':
                case 'd':
                case 't':
                    open--;
                    return true;
                case '!':
                    return true;
                case '&':
                case '|':
                    open++;
                    return true;
                case 'E':
                case 'A':
                    halfWay = true;
                    return true;
                default:
                    return false;
            }
        }
    }

    /** The ways of a state that count, and sets of worlds found in rounds. */
    private static final class Futures {
        final State state;
        int all = 0;
        int live = 0;
        int rounds = 0;

        /** The worlds of which one must come without end: the fair ones, or any. */
        int goals = 0;

        Futures(State state) {
            this.state = state;
        }

        void look() {
            all = state.allWorlds();
            goals = state.fairLetter == NONE ? all : state.withLetter(state.fairLetter);
            live = always(all);
        }

        /** Where "E", a sign and w (and v) holds; adds its rounds to those that there were. */
        int onSomeWay(char how, int w, int v) {
            switch (how) {
                case 'X':
                    return state.leadingInto(w & live);
                case 'F':
                    return until(all, w);
                case 'G':
                    return always(w);
                default:
                    return until(w, v);
            }
        }

        /** Where "A", a sign and w (and v) does not hold; adds its rounds likewise. */
        int onSomeWayNot(char how, int w, int v) {
            int notW = all & ~w;
            int notV = all & ~v;
            switch (how) {
                case 'X':
                    return state.leadingInto(notW & live);
                case 'F':
                    return always(notW);
                case 'G':
                    return until(all, notW);
                default:
                    return until(notV, notV & notW) | always(notV);
            }
        }

        /** The set of "EU"; adds its rounds to those that there were. */
        int until(int through, int goal) {
            int set = goal & live;
            for (int k = 0; k <= MOST_WORLDS; k++) {
                int grown = set | (through & state.leadingInto(set));
                if (grown == set) {
                    return set;
                }
                set = grown;
                rounds++;
            }
            return set;
        }

        /** The set of "EG"; adds its rounds to those that there were. */
        int always(int inside) {
            int set = inside;
            for (int k = 0; k <= MOST_WORLDS; k++) {
                int goal = set & goals;
                int kept = 0;
                int before = NONE;
                for (int j = 0; j <= MOST_WORLDS && kept != before; j++) {
                    before = kept;
                    kept = set & state.leadingInto(goal | kept);
                }
                if (kept == set) {
                    return set;
                }
                set = kept;
                rounds++;
            }
            return set;
        }
    }

    /**
     * What the parts of one wish mean in a state. Parts are gone through from
     * the last sign to the first, so that those within a part come before it.
     */
    private static final class Meaning {
        final State state;
        final Futures futures;
        int length = 0;
        private final char[] signs = new char[MOST_SIGNS];
        private final int[] lengths = new int[MOST_SIGNS];
        private final int[] depths = new int[MOST_SIGNS];
        private final int[] sets = new int[MOST_SIGNS];
        private final int[] rounds = new int[MOST_SIGNS];

        Meaning(State state) {
            this.state = state;
            this.futures = new Futures(state);
        }

        int live() {
            futures.look();
            return futures.live;
        }

        /** Finds what a wish means, and returns the worlds in which it holds. */
        int find(int wish) {
            readSigns(wish);
            findSets();
            return setAt(0);
        }

        /** Finds how the signs of a wish stand together: that hangs on no world. */
        void readSigns(int wish) {
            length = state.lengthOf(wish);
            for (int place = length - 1; place >= 0; place--) {
                signs[place] = state.signAt(wish, place);
                switch (signs[place]) {
                    case 'X':
                    case 'F':
                    case 'G':
                    case 'U':
                        lengths[place] = NONE;
                        depths[place] = 0;
                        break;
                    case '!':
                        putShape(place, place + 1, 1);
                        break;
                    case '&':
                    case '|':
                        putShape(place, place + 1, 2);
                        break;
                    case 'E':
                    case 'A':
                        putShape(place, place + 2, signAt(place + 1) == 'U' ? 2 : 1);
                        break;
                    default:
                        putShape(place, place + 1, 0);
                        break;
                }
            }
        }

        /** Keeps where a part ends that has so many parts in a row from a place on. */
        private void putShape(int place, int from, int parts) {
            int end = from;
            int depth = 0;
            for (int k = 0; k < parts; k++) {
                depth = Math.max(depth, depthAt(end));
                end = behind(end);
            }
            lengths[place] = end - place;
            depths[place] = 1 + depth;
        }

        /** Finds where the parts hold, and their rounds. */
        void findSets() {
            futures.look();
            for (int place = length - 1; place >= 0; place--) {
                int one = place + 1;
                futures.rounds = 0;
                switch (signs[place]) {
                    case 'X':
                    case 'F':
                    case 'G':
                    case 'U':
                        sets[place] = NONE;
                        break;
                    case 'E':
                        sets[place] = futures.onSomeWay(signAt(one), setAt(one + 1), setAt(behind(one + 1)));
                        break;
                    case 'A':
                        sets[place] = futures.all
                            & ~futures.onSomeWayNot(signAt(one), setAt(one + 1), setAt(behind(one + 1)));
                        break;
                    case '!':
                        sets[place] = futures.all & ~setAt(one);
                        break;
                    case '&':
                        sets[place] = setAt(one) & setAt(behind(one));
                        break;
                    case '|':
                        sets[place] = setAt(one) | setAt(behind(one));
                        break;
                    case 't':
                        sets[place] = futures.all;
                        break;
                    default:
                        sets[place] = state.withLetter(signs[place] - 'a');
                        break;
                }
                rounds[place] = sets[place] == NONE ? NONE : futures.rounds;
            }
        }

        int ofWish(int what) {
            if (length == 0) {
                return NONE;
            }
            switch (what) {
                case 0:
                    return length;
                case 1:
                    return setAt(0);
                case 2:
                    return allRounds();
                default:
                    return depthAt(0);
            }
        }

        int ofSign(int place, int what) {
            if (place < 0 || place >= length) {
                return NONE;
            }
            switch (what) {
                case 0:
                    return signs[place];
                case 1:
                    return sets[place];
                case 2:
                    return rounds[place];
                default:
                    return lengths[place];
            }
        }

        /** The sign's character, or 0 if there is no such sign. */
        char signAt(int place) {
            return place >= 0 && place < length ? signs[place] : (char) 0;
        }

        int setAt(int place) {
            return place >= 0 && place < length ? sets[place] : 0;
        }

        /** The place behind the part that begins at a place. */
        int behind(int place) {
            return place >= 0 && place < length ? place + lengths[place] : length;
        }

        private int depthAt(int place) {
            return place >= 0 && place < length ? depths[place] : 0;
        }

        private int allRounds() {
            int sum = 0;
            for (int place = 0; place < length; place++) {
                // signs without a part have NONE instead of rounds
                sum += Math.max(0, rounds[place]);
            }
            return sum;
        }
    }

    /** The witness of the wish whose meaning was found last. */
    private static final class Witness {
        private final Meaning meaning;
        private final Futures futures;
        private final int[] row = new int[LONGEST_WITNESS];
        private int length = 0;

        /** Of each k: the worlds from which at most k steps lead to a goal. */
        private final int[] layers = new int[MOST_WORLDS + 1];

        Witness(Meaning meaning) {
            this.meaning = meaning;
            this.futures = meaning.futures;
        }

        int at(int place) {
            return place >= 0 && place < length ? row[place] : NONE;
        }

        void find(int world) {
            length = 0;
            boolean holds = has(meaning.setAt(0), world);
            char how = meaning.signAt(1);
            int w = meaning.setAt(2);
            int v = meaning.setAt(meaning.behind(2));
            if (meaning.signAt(0) == 'E' && holds) {
                put(world);
                go(world, how, w, v);
            } else if (meaning.signAt(0) == 'A' && !holds) {
                put(world);
                goAgainst(world, how, futures.all & ~w, futures.all & ~v);
            }
        }

        private void go(int world, char how, int w, int v) {
            switch (how) {
                case 'X':
                    goNext(world, w);
                    break;
                case 'F':
                    goUntil(world, futures.all, w);
                    break;
                case 'G':
                    goAround(world, w);
                    break;
                default:
                    goUntil(world, w, v);
                    break;
            }
        }

        /** Goes a way against a wish of "A", told by where its parts do not hold. */
        private void goAgainst(int world, char how, int notW, int notV) {
            switch (how) {
                case 'X':
                    goNext(world, notW);
                    break;
                case 'F':
                    goAround(world, notW);
                    break;
                case 'G':
                    goUntil(world, futures.all, notW);
                    break;
                default:
                    if (has(futures.until(notV, notV & notW), world)) {
                        goUntil(world, notV, notV & notW);
                    } else {
                        goAround(world, notV);
                    }
                    break;
            }
        }

        private void goNext(int world, int set) {
            put(lowest(futures.state.stepsFrom(world) & set & futures.live));
        }

        private void goUntil(int world, int through, int goal) {
            int liveGoal = goal & futures.live;
            if (!has(liveGoal, world)) {
                layOut(through, liveGoal);
                walk(world);
            }
        }

        private void goAround(int world, int inside) {
            int set = futures.always(inside);
            layOut(set, set & futures.goals);
            int here = world;
            int reached = 0;
            for (int leg = 0; leg <= MOST_WORLDS; leg++) {
                here = walk(here);
                if (here == NONE || has(reached, here)) {
                    return;
                }
                reached |= 1 << here;
            }
        }

        private void layOut(int through, int goal) {
            int near = goal;
            for (int k = 0; k <= MOST_WORLDS; k++) {
                layers[k] = near;
                near |= through & futures.state.leadingInto(near);
            }
        }

        /** Goes the shortest row of one step or more to a goal, the first of several; returns the goal. */
        private int walk(int from) {
            int nearest = nearestLayer(futures.state.stepsFrom(from));
            int here = from;
            for (int k = nearest; k >= 0; k--) {
                here = lowest(futures.state.stepsFrom(here) & layers[k]);
                put(here);
            }
            return nearest == NONE ? NONE : here;
        }

        /** The first layer that has one of the worlds, NONE if there is none. */
        private int nearestLayer(int worlds) {
            for (int k = 0; k <= MOST_WORLDS; k++) {
                if ((worlds & layers[k]) != 0) {
                    return k;
                }
            }
            return NONE;
        }

        private void put(int world) {
            if (world != NONE && length < LONGEST_WITNESS) {
                row[length] = world;
                length++;
            }
        }

        private static boolean has(int set, int world) {
            return world >= 0 && ((set >> world) & 1) == 1;
        }

        private static int lowest(int set) {
            for (int world = 0; world < MOST_WORLDS; world++) {
                if (has(set, world)) {
                    return world;
                }
            }
            return NONE;
        }
    }

    /** Changes that are tried on a state of their own, so that the real one stays. */
    private static final class Trial {
        int number = NONE;
        int first = NONE;
        private final State state = new State();
        private final Meaning meaning = new Meaning(state);

        /** Tries each flip of a letter; number and first are NONE without a wish. */
        void flips(State real, int wish, int world) {
            begin(real, wish);
            int worlds = meaning.length == 0 ? 0 : state.worlds;
            for (int changed = 0; changed < worlds; changed++) {
                for (int letter = 0; letter < LETTERS; letter++) {
                    state.turnLetter(changed, letter);
                    meaning.findSets();
                    note(world, LETTERS * changed + letter);
                    state.turnLetter(changed, letter);
                }
            }
        }

        /** Tries each step, added or taken away; likewise without a wish. */
        void turns(State real, int wish, int world) {
            begin(real, wish);
            int worlds = meaning.length == 0 ? 0 : state.worlds;
            for (int from = 0; from < worlds; from++) {
                for (int to = 0; to < worlds; to++) {
                    state.turnStep(from, to);
                    meaning.findSets();
                    note(world, MOST_WORLDS * from + to);
                    state.turnStep(from, to);
                }
            }
        }

        int worldsIfFair(State real, int wish, int letter) {
            begin(real, wish);
            state.fairLetter = letter;
            meaning.findSets();
            return meaning.length == 0 ? NONE : meaning.setAt(0);
        }

        private void begin(State real, int wish) {
            state.copyFrom(real);
            meaning.readSigns(wish);
            number = meaning.length == 0 ? NONE : 0;
            first = NONE;
        }

        private void note(int world, int change) {
            if (((meaning.setAt(0) >> world) & 1) == 1) {
                number++;
                if (first == NONE) {
                    first = change;
                }
            }
        }
    }
}
