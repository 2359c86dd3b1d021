/**
 * For each promise of the document but the last one: ordinary inputs, some
 * edges, and wrong inputs. The answers that are due were worked out by hand.
 * The tests by the document's sentences, digest's among them, stand in
 * TermsSentencesTest, ChangeSentencesTest and LookSentencesTest.
 */
public final class PromisesTest {
    private static final int NONE = FutureWishes.NONE;
    private static final int MIN = Integer.MIN_VALUE;
    private static final int MAX = Integer.MAX_VALUE;
    private static int wrong = 0;
    private static int checked = 0;
    private static int promise = 0;

    private interface Call {
        Object answer();
    }

    private static Object got(Call call) {
        try {
            return call.answer();
        } catch (RuntimeException e) {
            return e.getClass().getSimpleName();
        }
    }

    /** Holds the answer of a call, or the name of its exception, against the one that is due. */
    private static void due(String name, Object want, Call call) {
        Object got = got(call);
        checked++;
        if (!want.equals(got)) {
            wrong++;
            System.out.println("promise " + promise + ": " + name + " answered " + got + ", due is " + want);
        }
    }

    private static void index(String name, Call call) {
        due(name, "IndexOutOfBoundsException", call);
    }

    private static void argument(String name, Call call) {
        due(name, "IllegalArgumentException", call);
    }

    private static void state(String name, Call call) {
        due(name, "IllegalStateException", call);
    }

    private static void type(FutureWishes x, String text) {
        for (int k = 0; k < text.length(); k++) {
            x.append(text.charAt(k));
        }
    }

    private static FutureWishes wish(FutureWishes x, int wish, String text) {
        x.clearBuffer();
        type(x, text);
        x.read(wish);
        return x;
    }

    /** Worlds with these letters, and steps told as "01 12" (from, to). */
    private static FutureWishes worlds(String steps, int... letters) {
        FutureWishes x = new FutureWishes();
        for (int mask : letters) {
            x.addWorld(mask);
        }
        for (int k = 0; k + 1 < steps.length(); k += 3) {
            x.step(steps.charAt(k) - '0', steps.charAt(k + 1) - '0');
        }
        return x;
    }

    /** A whole witness as its digits. */
    private static String row(FutureWishes x, int wish, int world) {
        StringBuilder row = new StringBuilder();
        int next = x.witness(wish, world, 0);
        while (next != NONE && row.length() < 112) {
            row.append(next);
            next = x.witness(wish, world, row.length());
        }
        return row.toString();
    }

    private static String rows(FutureWishes x, String text, int world) {
        return row(wish(x, 3, text), 3, world);
    }

    private static int holds(FutureWishes x, String text) {
        return wish(x, 3, text).wish(3, 1);
    }

    private static int rounds(FutureWishes x, String text) {
        return wish(x, 3, text).sign(3, 0, 2);
    }

    private static int error(String text) {
        FutureWishes x = new FutureWishes();
        type(x, text);
        return x.firstError();
    }

    private static String many(String sign, int times) {
        return sign.repeat(times);
    }

    public static void main(String[] args) {
        promise = 1;
        newObject();
        promise = 2;
        addWorld();
        promise = 3;
        removeWorld();
        promise = 4;
        step();
        promise = 5;
        flip();
        promise = 6;
        fair();
        promise = 7;
        ring();
        promise = 8;
        append();
        promise = 9;
        clearBuffer();
        promise = 10;
        firstError();
        promise = 11;
        read();
        promise = 12;
        negate();
        promise = 13;
        giveUp();
        promise = 14;
        undo();
        promise = 15;
        world();
        promise = 16;
        wishes();
        wishRounds();
        promise = 17;
        signs();
        promise = 18;
        witness();
        witnessAround();
        promise = 19;
        compare();
        promise = 20;
        count();
        promise = 21;
        fixes();
        promise = 22;
        ifFair();
        promise = 23;
        fulfilled();
        promise = 0;
        nothingIsChanged();
        System.out.println("PromisesTest: " + checked + " answers, " + wrong + " wrong");
        if (wrong != 0) {
            System.exit(1);
        }
    }

    private static void newObject() {
        FutureWishes x = new FutureWishes();
        due("NONE", -1, () -> FutureWishes.NONE);
        for (int what = 0; what <= 8; what++) {
            int k = what;
            due("count(" + k + ")", k == 4 ? NONE : 0, () -> x.count(k));
        }
        for (int wish = 0; wish < 4; wish++) {
            int k = wish;
            due("wish(" + k + ", 0)", NONE, () -> x.wish(k, 0));
        }
        due("clearBuffer()", 0, () -> x.clearBuffer());
        state("undo()", () -> x.undo());
    }

    private static void addWorld() {
        FutureWishes x = new FutureWishes();
        argument("addWorld(-1)", () -> x.addWorld(-1));
        argument("addWorld(16)", () -> x.addWorld(16));
        argument("addWorld(MIN)", () -> x.addWorld(MIN));
        due("count(8)", 0, () -> x.count(8));
        for (int k = 0; k < 10; k++) {
            int number = k;
            due("addWorld", number, () -> x.addWorld(number == 9 ? 15 : number));
            due("letters", number == 9 ? 15 : number, () -> x.world(number, 0));
            due("steps", 0, () -> x.world(number, 1));
        }
        state("addWorld(0) with 10", () -> x.addWorld(0));
        argument("addWorld(16) with 10", () -> x.addWorld(16));
        due("undo()", 5, () -> x.undo());
        due("count(0)", 9, () -> x.count(0));
        FutureWishes y = worlds("00 01 10 11", 1, 2);
        y.removeWorld(1);
        y.addWorld(4);
        due("no steps of a world that went", 0, () -> y.world(1, 1));
        due("no steps to it either", 1, () -> y.world(0, 1));
    }

    private static void removeWorld() {
        FutureWishes x = worlds("00 02 12 20 21 22 23 31 33", 1, 2, 4, 8);
        index("removeWorld(4)", () -> x.removeWorld(4));
        index("removeWorld(-1)", () -> x.removeWorld(-1));
        index("removeWorld(MAX)", () -> x.removeWorld(MAX));
        due("removeWorld(1)", 3, () -> x.removeWorld(1));
        due("letters of 1", 4, () -> x.world(1, 0));
        due("letters of 2", 8, () -> x.world(2, 0));
        due("steps of 0", 0b011, () -> x.world(0, 1));
        due("steps of 1", 0b111, () -> x.world(1, 1));
        due("steps of 2", 0b100, () -> x.world(2, 1));
        index("world(3, 0)", () -> x.world(3, 0));
        due("undo()", 5, () -> x.undo());
        due("steps of 3", 0b1010, () -> x.world(3, 1));
        x.removeWorld(3);
        x.removeWorld(0);
        due("removeWorld", 1, () -> x.removeWorld(0));
        due("removeWorld", 0, () -> x.removeWorld(0));
        index("removeWorld(0)", () -> x.removeWorld(0));
        FutureWishes full = new FutureWishes();
        for (int k = 0; k < 10; k++) {
            full.addWorld(k);
        }
        full.ring();
        due("removeWorld(9)", 9, () -> full.removeWorld(9));
        due("the last has no step", 0, () -> full.world(8, 1));
    }

    private static void step() {
        FutureWishes x = worlds("", 0, 0);
        due("step(0, 1)", 1, () -> x.step(0, 1));
        due("steps of 0", 2, () -> x.world(0, 1));
        due("steps of 1", 0, () -> x.world(1, 1));
        due("step(0, 1)", 0, () -> x.step(0, 1));
        due("count(1)", 0, () -> x.count(1));
        due("step(1, 1)", 1, () -> x.step(1, 1));
        index("step(0, 2)", () -> x.step(0, 2));
        index("step(2, 0)", () -> x.step(2, 0));
        index("step(-1, 0)", () -> x.step(-1, 0));
        index("step(0, -1)", () -> x.step(0, -1));
        due("count(8)", 5, () -> x.count(8));
        due("undo()", 4, () -> x.undo());
        due("count(1)", 0, () -> x.count(1));
    }

    private static void flip() {
        FutureWishes x = worlds("", 5);
        due("flip(0, 1)", 7, () -> x.flip(0, 1));
        due("flip(0, 0)", 6, () -> x.flip(0, 0));
        due("flip(0, 3)", 14, () -> x.flip(0, 3));
        index("flip(1, 0)", () -> x.flip(1, 0));
        index("flip(-1, 4)", () -> x.flip(-1, 4));
        argument("flip(0, 4)", () -> x.flip(0, 4));
        argument("flip(0, -1)", () -> x.flip(0, -1));
        due("world(0, 0)", 14, () -> x.world(0, 0));
        due("undo()", 3, () -> x.undo());
        due("world(0, 0)", 6, () -> x.world(0, 0));
    }

    private static void fair() {
        FutureWishes x = worlds("00 11", 1, 2);
        due("fair(0)", NONE, () -> x.fair(0));
        due("live", 1, () -> x.count(2));
        due("fair(3)", 0, () -> x.fair(3));
        due("live", 0, () -> x.count(2));
        argument("fair(4)", () -> x.fair(4));
        argument("fair(-2)", () -> x.fair(-2));
        due("fair(3)", 3, () -> x.fair(3));
        due("fair(NONE)", 3, () -> x.fair(NONE));
        due("live", 2, () -> x.count(2));
        due("undo()", 5, () -> x.undo());
        due("count(4)", 3, () -> x.count(4));
    }

    private static void ring() {
        FutureWishes none = new FutureWishes();
        due("ring() without worlds", 0, () -> none.ring());
        due("count(8)", 1, () -> none.count(8));
        FutureWishes one = worlds("", 0);
        due("ring() of one", 1, () -> one.ring());
        due("to itself", 1, () -> one.world(0, 1));
        FutureWishes x = worlds("02 12", 0, 0, 0);
        due("ring()", 4, () -> x.ring());
        due("steps of 0", 6, () -> x.world(0, 1));
        due("steps of 1", 4, () -> x.world(1, 1));
        due("steps of 2", 1, () -> x.world(2, 1));
        due("ring()", 4, () -> x.ring());
        due("undo()", 5, () -> x.undo());
        due("undo()", 4, () -> x.undo());
        due("count(1)", 2, () -> x.count(1));
    }

    private static void append() {
        FutureWishes x = new FutureWishes();
        argument("append(32)", () -> x.append(32));
        argument("append(127)", () -> x.append(127));
        argument("append(-1)", () -> x.append(-1));
        argument("append(65536 + 97)", () -> x.append(65536 + 97));
        due("append(33)", 1, () -> x.append(33));
        due("append(126)", 2, () -> x.append(126));
        for (int k = 3; k <= 60; k++) {
            x.append('a');
        }
        state("append to 60", () -> x.append('a'));
        argument("append(32) to 60", () -> x.append(32));
        due("clearBuffer()", 60, () -> x.clearBuffer());
        due("count(8)", 0, () -> x.count(8));
    }

    private static void clearBuffer() {
        FutureWishes x = new FutureWishes();
        due("clearBuffer()", 0, () -> x.clearBuffer());
        type(x, "EX");
        due("clearBuffer()", 2, () -> x.clearBuffer());
        due("clearBuffer()", 0, () -> x.clearBuffer());
        due("append(97)", 1, () -> x.append('a'));
        due("read(0)", 1, () -> x.read(0));
        due("count(8)", 1, () -> x.count(8));
    }

    private static void firstError() {
        due("of nothing", 0, () -> error(""));
        for (String good : new String[] {"a", "b", "c", "d", "t", "!a", "&ab", "|ab", "EXa", "AFa", "EGa", "AUab",
            "EUEUabAXc", "E", "EU", "EUa", "&", "|a", "!", "A"}) {
            due(good, good.length(), () -> error(good));
        }
        for (String bad : new String[] {"e", "X", "F", "G", "U", "T", "~", "1"}) {
            due(bad, 0, () -> error(bad));
        }
        due("aa", 1, () -> error("aa"));
        due("a!", 1, () -> error("a!"));
        due("Ea", 1, () -> error("Ea"));
        due("EEXa", 1, () -> error("EEXa"));
        due("EXXa", 2, () -> error("EXXa"));
        due("EXa~", 3, () -> error("EXa~"));
        due("&abX", 3, () -> error("&abX"));
        due("&Xab", 1, () -> error("&Xab"));
        due("39 ! and a", 40, () -> error(many("!", 39) + "a"));
        due("40 !", 39, () -> error(many("!", 40)));
        due("19 & and 20 a", 39, () -> error(many("&", 19) + many("a", 20)));
        due("19 & and 21 a", 39, () -> error(many("&", 19) + many("a", 21)));
        due("20 & and 21 a", 19, () -> error(many("&", 20) + many("a", 21)));
        due("37 ! and E", 38, () -> error(many("!", 37) + "E"));
        due("38 ! and E", 38, () -> error(many("!", 38) + "E"));
        due("37 ! and EX", 39, () -> error(many("!", 37) + "EX"));
        due("37 ! and EU", 38, () -> error(many("!", 37) + "EU"));
        due("36 ! and EU", 38, () -> error(many("!", 36) + "EU"));
        due("36 ! and EUab", 40, () -> error(many("!", 36) + "EUab"));
        due("36 ! and EU!", 38, () -> error(many("!", 36) + "EU!"));
        due("60 !", 39, () -> error(many("!", 60)));
    }

    private static void read() {
        FutureWishes x = worlds("00", 1);
        argument("read of nothing", () -> x.read(0));
        type(x, "EX");
        argument("read of a part", () -> x.read(0));
        index("read(4)", () -> x.read(4));
        index("read(-1)", () -> x.read(-1));
        due("clearBuffer()", 2, () -> x.clearBuffer());
        type(x, "aa");
        argument("read of too much", () -> x.read(0));
        x.clearBuffer();
        type(x, many("!", 40) + "a");
        argument("read of 41 signs", () -> x.read(0));
        x.clearBuffer();
        due("count(8)", 2, () -> x.count(8));
        type(x, many("!", 39) + "a");
        due("read(3)", 40, () -> x.read(3));
        due("clearBuffer()", 0, () -> x.clearBuffer());
        due("wish(3, 0)", 40, () -> x.wish(3, 0));
        type(x, "EGa");
        due("read(3)", 3, () -> x.read(3));
        due("wish(3, 1)", 1, () -> x.wish(3, 1));
        due("wish(0, 0)", NONE, () -> x.wish(0, 0));
        type(x, "b");
        due("undo()", 3, () -> x.undo());
        due("wish(3, 0)", 40, () -> x.wish(3, 0));
        due("the buffer stays", 1, () -> x.clearBuffer());
    }

    private static void negate() {
        FutureWishes x = worlds("", 1, 0);
        index("negate(4)", () -> x.negate(4));
        index("negate(-1)", () -> x.negate(-1));
        state("negate(0) of none", () -> x.negate(0));
        wish(x, 0, "&ta");
        due("negate(0)", 4, () -> x.negate(0));
        due("sign(0, 0, 0)", (int) '!', () -> x.sign(0, 0, 0));
        due("sign(0, 1, 0)", (int) '&', () -> x.sign(0, 1, 0));
        due("sign(0, 3, 0)", (int) 'a', () -> x.sign(0, 3, 0));
        due("wish(0, 1)", 2, () -> x.wish(0, 1));
        due("negate(0)", 3, () -> x.negate(0));
        due("sign(0, 0, 0)", (int) '&', () -> x.sign(0, 0, 0));
        due("wish(0, 1)", 1, () -> x.wish(0, 1));
        wish(x, 1, many("!", 39) + "a");
        due("negate(1) of 40 with !", 39, () -> x.negate(1));
        due("negate(1)", 38, () -> x.negate(1));
        wish(x, 1, "&a" + many("!", 37) + "a");
        int saved = x.count(8);
        state("negate(1) of 40 without !", () -> x.negate(1));
        due("count(8)", saved, () -> x.count(8));
        due("wish(1, 0)", 40, () -> x.wish(1, 0));
        wish(x, 2, "|a" + many("!", 36) + "a");
        due("negate(2) of 39", 40, () -> x.negate(2));
        due("wish(1, 0)", 40, () -> x.wish(1, 0));
        x.undo();
        due("wish(2, 0)", 39, () -> x.wish(2, 0));
        wish(x, 3, "a");
        due("negate(3)", 2, () -> x.negate(3));
        due("negate(3)", 1, () -> x.negate(3));
        due("sign(3, 0, 0)", (int) 'a', () -> x.sign(3, 0, 0));
    }

    private static void giveUp() {
        FutureWishes x = worlds("", 1);
        index("giveUp(4)", () -> x.giveUp(4));
        index("giveUp(-1)", () -> x.giveUp(-1));
        due("giveUp(0) of none", 0, () -> x.giveUp(0));
        due("count(8)", 2, () -> x.count(8));
        wish(x, 0, "EXa");
        due("giveUp(0)", 3, () -> x.giveUp(0));
        due("wish(0, 0)", NONE, () -> x.wish(0, 0));
        due("count(5)", 0, () -> x.count(5));
        due("undo()", 3, () -> x.undo());
        due("wish(0, 0)", 3, () -> x.wish(0, 0));
    }

    private static void undo() {
        FutureWishes x = new FutureWishes();
        state("undo()", () -> x.undo());
        for (int k = 0; k < 8; k++) {
            x.addWorld(k);
        }
        due("count(8)", 6, () -> x.count(8));
        for (int k = 5; k >= 0; k--) {
            int left = k;
            due("undo()", left, () -> x.undo());
            due("count(0)", 2 + left, () -> x.count(0));
        }
        state("undo()", () -> x.undo());
        due("count(0)", 2, () -> x.count(0));
        FutureWishes y = worlds("00 01", 1, 2);
        wish(y, 0, "EGa");
        y.fair(1);
        y.removeWorld(0);
        type(y, "x");
        due("undo()", 5, () -> y.undo());
        due("count(0)", 2, () -> y.count(0));
        due("count(4)", 1, () -> y.count(4));
        due("undo()", 4, () -> y.undo());
        due("count(4)", NONE, () -> y.count(4));
        due("wish(0, 1)", 1, () -> y.wish(0, 1));
        due("the buffer stays", 1, () -> y.clearBuffer());
        due("undo()", 3, () -> y.undo());
        due("wish(0, 0)", NONE, () -> y.wish(0, 0));
        y.ring();
        due("count(8)", 4, () -> y.count(8));
        due("undo()", 3, () -> y.undo());
    }

    private static void world() {
        FutureWishes x = worlds("01 11 20 23", 1, 3, 0, 8);
        wish(x, 0, "a");
        wish(x, 3, "EFb");
        due("letters", 3, () -> x.world(1, 0));
        due("steps from 2", 0b1001, () -> x.world(2, 1));
        due("steps to 1", 0b11, () -> x.world(1, 2));
        due("steps to 0", 0b100, () -> x.world(0, 2));
        due("0 is live", 1, () -> x.world(0, 3));
        due("2 is live", 1, () -> x.world(2, 3));
        due("3 is not live", 0, () -> x.world(3, 3));
        due("wishes in 1", 0b1001, () -> x.world(1, 4));
        due("wishes in 2", 0b1000, () -> x.world(2, 4));
        due("wishes in 3", 0, () -> x.world(3, 4));
        index("world(4, 5)", () -> x.world(4, 5));
        index("world(-1, 0)", () -> x.world(-1, 0));
        argument("world(0, 5)", () -> x.world(0, 5));
        argument("world(0, -1)", () -> x.world(0, -1));
        x.fair(3);
        due("nothing is live", 0, () -> x.world(1, 3));
        x.step(3, 2);
        due("3 is live", 1, () -> x.world(3, 3));
        due("1 is not", 0, () -> x.world(1, 3));
    }

    private static void wishes() {
        FutureWishes x = worlds("01 11 12", 1, 2, 1);
        index("wish(4, 4)", () -> x.wish(4, 4));
        index("wish(-1, 0)", () -> x.wish(-1, 0));
        argument("wish(0, 4)", () -> x.wish(0, 4));
        argument("wish(0, -1)", () -> x.wish(0, -1));
        for (int what = 0; what <= 3; what++) {
            int k = what;
            due("wish(0, " + k + ") of none", NONE, () -> x.wish(0, k));
        }
        due("a", 0b101, () -> holds(x, "a"));
        due("t", 0b111, () -> holds(x, "t"));
        due("!a", 0b010, () -> holds(x, "!a"));
        due("&ta", 0b101, () -> holds(x, "&ta"));
        due("|ab", 0b111, () -> holds(x, "|ab"));
        due("EXa: the world 2 is not live", 0, () -> holds(x, "EXa"));
        due("EXb", 0b011, () -> holds(x, "EXb"));
        due("EFa: live worlds alone", 0b001, () -> holds(x, "EFa"));
        due("EGt", 0b011, () -> holds(x, "EGt"));
        due("EGb", 0b010, () -> holds(x, "EGb"));
        due("EUab", 0b011, () -> holds(x, "EUab"));
        due("EUba", 0b001, () -> holds(x, "EUba"));
        due("AXa", 0b100, () -> holds(x, "AXa"));
        due("AXb", 0b111, () -> holds(x, "AXb"));
        due("AFa", 0b101, () -> holds(x, "AFa"));
        due("AGb", 0b110, () -> holds(x, "AGb"));
        due("AUab", 0b111, () -> holds(x, "AUab"));
        due("AUba", 0b101, () -> holds(x, "AUba"));
        due("AGd without ways", 0b100, () -> holds(x, "AGd"));
        x.fair(0);
        due("AGd without fair ways", 0b111, () -> holds(x, "AGd"));
        due("EFt without fair ways", 0, () -> holds(x, "EFt"));
        for (String[] deep : new String[][] {{"a", "1"}, {"t", "1"}, {"!a", "2"}, {"EXa", "2"}, {"AUab", "2"},
            {"&a!b", "3"}, {"&!!ab", "4"}, {"EUa&bEGc", "4"}, {"AUEXEXab", "4"}, {"!!!!a", "5"}}) {
            due("depth of " + deep[0], Integer.valueOf(deep[1]), () -> wish(x, 2, deep[0]).wish(2, 3));
        }
        due("signs", 8, () -> wish(x, 2, "EUa&bEGc").wish(2, 0));
    }

    private static void wishRounds() {
        FutureWishes x = worlds("01 12 23 33", 1, 1, 1, 2);
        due("EFb", 3, () -> rounds(x, "EFb"));
        due("EFt", 0, () -> rounds(x, "EFt"));
        due("EUab", 3, () -> rounds(x, "EUab"));
        due("EUba", 0, () -> rounds(x, "EUba"));
        due("EGa: 2, then 1, then 0", 3, () -> rounds(x, "EGa"));
        due("EGb", 0, () -> rounds(x, "EGb"));
        due("AFb", 3, () -> rounds(x, "AFb"));
        due("AGa", 3, () -> rounds(x, "AGa"));
        due("AUab: 0 and 3", 3, () -> rounds(x, "AUab"));
        due("AUtb", 3, () -> rounds(x, "AUtb"));
        due("AUbc: 0 and 0", 0, () -> rounds(x, "AUbc"));
        due("EXa", 0, () -> rounds(x, "EXa"));
        due("AXa", 0, () -> rounds(x, "AXa"));
        due("a", 0, () -> rounds(x, "a"));
        due("!EFb: the part in it has them", 0, () -> rounds(x, "!EFb"));
        due("all of !EFb", 3, () -> wish(x, 0, "!EFb").wish(0, 2));
        due("all of &EFbEFb", 6, () -> wish(x, 0, "&EFbEFb").wish(0, 2));
        due("all of EFEGa: 3, and 0 from nothing", 3, () -> wish(x, 0, "EFEGa").wish(0, 2));
        due("all of EXa", 0, () -> wish(x, 0, "EXa").wish(0, 2));
        FutureWishes y = worlds("01 12 20 03 34 43", 1, 0, 0, 2, 0);
        y.fair(1);
        due("EGt with fair ways: nothing falls", 0, () -> rounds(y, "EGt"));
        y.fair(0);
        due("EGt: 3 and 4 fall at once", 1, () -> rounds(y, "EGt"));
        due("EGt holds", 0b111, () -> holds(y, "EGt"));
        due("EG!b: likewise", 1, () -> rounds(y, "EG!b"));
        due("EF&tb: no live goal", 0, () -> rounds(y, "EF&tb"));
        FutureWishes chain = worlds("01 12 23 34 45 56 67 78 89", 1, 1, 1, 1, 1, 1, 1, 1, 1, 3);
        due("EGa: the last one falls ten times", 10, () -> rounds(chain, "EGa"));
        due("AF!a: likewise", 10, () -> rounds(chain, "AF!a"));
        chain.step(9, 9);
        due("EFb: nine are added one by one", 9, () -> rounds(chain, "EFb"));
        due("EFb holds", 1023, () -> holds(chain, "EFb"));
        due("AU!bb: 0, and nine fall", 9, () -> rounds(chain, "AU!bb"));
        due("AUab: nine steps back from none, and nine fall", 9, () -> rounds(chain, "AUab"));
        due("AUcb: the neighbours are there at once, and nine fall", 9, () -> rounds(chain, "AUcb"));
        chain.flip(4, 0);
        due("AUab: from 4 four are added, and nine fall", 13, () -> rounds(chain, "AUab"));
    }

    private static void signs() {
        FutureWishes x = worlds("01 12 23 33", 1, 1, 1, 2);
        wish(x, 1, "&EUab!AXEFb");
        int[][] want = {
            {'&', 0b0000, 0, 11}, {'E', 0b1111, 3, 4}, {'U', NONE, NONE, NONE}, {'a', 0b0111, 0, 1}, {'b', 0b1000, 0, 1},
            {'!', 0b0000, 0, 6}, {'A', 0b1111, 0, 5}, {'X', NONE, NONE, NONE}, {'E', 0b1111, 3, 3}, {'F', NONE, NONE, NONE},
            {'b', 0b1000, 0, 1},
        };
        for (int sign = 0; sign < want.length; sign++) {
            for (int what = 0; what < 4; what++) {
                int s = sign;
                int k = what;
                due("sign(1, " + s + ", " + k + ")", want[s][k], () -> x.sign(1, s, k));
            }
        }
        index("sign(1, 11, 0)", () -> x.sign(1, 11, 0));
        index("sign(1, 11, 4)", () -> x.sign(1, 11, 4));
        index("sign(1, -1, 0)", () -> x.sign(1, -1, 0));
        index("sign(1, MAX, 0)", () -> x.sign(1, MAX, 0));
        index("sign(4, 0, 0)", () -> x.sign(4, 0, 0));
        index("sign(-1, 0, 0)", () -> x.sign(-1, 0, 0));
        index("sign(0, 0, 0) of none", () -> x.sign(0, 0, 0));
        argument("sign(1, 0, 4)", () -> x.sign(1, 0, 4));
        argument("sign(1, 0, -1)", () -> x.sign(1, 0, -1));
    }

    private static void witness() {
        FutureWishes x = worlds("01 02 03 14 24 35 44", 1, 1, 1, 1, 2, 2);
        index("witness(4, 0, -1)", () -> x.witness(4, 0, -1));
        index("witness(-1, 0, 0)", () -> x.witness(-1, 0, 0));
        index("witness(0, 6, -1)", () -> x.witness(0, 6, -1));
        index("witness(0, -1, 0)", () -> x.witness(0, -1, 0));
        argument("witness(0, 0, -1)", () -> x.witness(0, 0, -1));
        due("witness of none", NONE, () -> x.witness(0, 0, 0));
        due("EXa", "01", () -> rows(x, "EXa", 0));
        due("EX of a live world alone", "", () -> rows(x, "EXb", 3));
        due("EXb from 4", "44", () -> rows(x, "EXb", 4));
        due("EUab", "014", () -> rows(x, "EUab", 0));
        due("EUab where b holds", "4", () -> rows(x, "EUab", 4));
        due("EFb", "014", () -> rows(x, "EFb", 0));
        due("EFb where it is not", "", () -> rows(x, "EFb", 3));
        due("EGt", "0144", () -> rows(x, "EGt", 0));
        due("AXb", "01", () -> rows(x, "AXb", 0));
        due("AXb where it holds", "", () -> rows(x, "AXb", 1));
        due("AGa", "014", () -> rows(x, "AGa", 0));
        due("AGa where it holds without ways", "", () -> rows(x, "AGa", 5));
        due("AUab where it holds", "", () -> rows(x, "AUab", 0));
        due("AUcb: neither here", "0", () -> rows(x, "AUcb", 0));
        due("AUac: 4 has neither", "014", () -> rows(x, "AUac", 0));
        due("a", "", () -> rows(x, "a", 0));
        due("!AXb has no witness", "", () -> rows(x, "!AXb", 0));
        due("&EXaEXa", "", () -> rows(x, "&EXaEXa", 0));
        due("t", "", () -> rows(x, "t", 0));
        wish(x, 0, "EFb");
        due("place MAX", NONE, () -> x.witness(0, 0, MAX));
        due("place 2", 4, () -> x.witness(0, 0, 2));
        due("place 3", NONE, () -> x.witness(0, 0, 3));
        FutureWishes y = worlds("01 02 13 14 23 24 35 45 55", 0, 0, 0, 0, 0, 1);
        due("first by its second world, then by its third one", "0135", () -> rows(y, "EFa", 0));
        y.step(1, 3);
        due("likewise", "0145", () -> rows(y, "EFa", 0));
        y.step(1, 4);
        due("likewise", "0235", () -> rows(y, "EFa", 0));
        y.step(0, 5);
        due("the shortest one", "05", () -> rows(y, "EFa", 0));
    }

    private static void witnessAround() {
        FutureWishes x = worlds("01 12 20", 1, 1, 1);
        due("EGa without a fair letter: each world is a goal", "01201", () -> rows(x, "EGa", 0));
        due("AFb is that of EG !b", "12012", () -> rows(x, "AFb", 1));
        x.flip(2, 1);
        x.fair(1);
        due("EGa to the fair world", "012012", () -> rows(x, "EGa", 0));
        due("from the fair world: it is no goal yet", "2012012", () -> rows(x, "EGa", 2));
        FutureWishes self = worlds("00", 1);
        due("one world", "000", () -> rows(self, "EGa", 0));
        self.fair(0);
        due("one fair world", "000", () -> rows(self, "EGa", 0));
        FutureWishes two = worlds("01 12 23 31 13", 0, 0, 1, 1);
        two.fair(0);
        due("to 2, to 3, and by 1 to 2 again", "012312", () -> rows(two, "EGt", 0));
        FutureWishes ten = worlds("", 1, 0, 0, 0, 0, 0, 0, 0, 0, 2);
        ten.ring();
        due("ten goals, and the first one again", "012345678901", () -> rows(ten, "EGt", 0));
        due("nine steps", "0123456789", () -> rows(ten, "EFb", 0));
        ten.fair(0);
        due("twice around to the only goal", "012345678901234567890", () -> rows(ten, "EGt", 0));
        due("once around, and once more", "12345678901234567890", () -> rows(ten, "AFc", 1));
        FutureWishes lead = worlds("01 10 12 22", 1, 1, 3);
        lead.fair(1);
        due("into the fair one and around it", "0122", () -> rows(lead, "EGa", 0));
        due("within the set alone", "", () -> rows(lead, "EG!b", 0));
        FutureWishes against = worlds("01 10 02", 1, 1, 2);
        due("AUad: going around alone is against it", "0101", () -> rows(against, "AUad", 0));
        against.step(2, 2);
        due("AUad: the world 2 breaks it", "02", () -> rows(against, "AUad", 0));
    }

    private static void compare() {
        FutureWishes x = worlds("", 1, 3, 2, 0);
        index("compare(4, 0)", () -> x.compare(4, 0));
        index("compare(0, 4)", () -> x.compare(0, 4));
        index("compare(-1, 0)", () -> x.compare(-1, 0));
        index("compare(0, -1)", () -> x.compare(0, -1));
        due("none, none", NONE, () -> x.compare(0, 0));
        wish(x, 0, "a");
        wish(x, 1, "&ab");
        wish(x, 2, "b");
        due("none", NONE, () -> x.compare(0, 3));
        due("none", NONE, () -> x.compare(3, 0));
        due("the same", 0, () -> x.compare(0, 0));
        due("fewer", 1, () -> x.compare(1, 0));
        due("more", 2, () -> x.compare(0, 1));
        due("otherwise", 3, () -> x.compare(0, 2));
        wish(x, 3, "d");
        due("fewer: none", 1, () -> x.compare(3, 1));
        due("more than none", 2, () -> x.compare(1, 3));
        wish(x, 3, "!!b");
        due("the same worlds by other words", 0, () -> x.compare(2, 3));
    }

    private static void count() {
        FutureWishes x = worlds("00 01 12", 1, 3, 2, 1);
        argument("count(9)", () -> x.count(9));
        argument("count(-1)", () -> x.count(-1));
        due("worlds", 4, () -> x.count(0));
        due("steps", 3, () -> x.count(1));
        due("live", 1, () -> x.count(2));
        due("without a step", 2, () -> x.count(3));
        due("fair letter", NONE, () -> x.count(4));
        due("wishes", 0, () -> x.count(5));
        due("signs", 0, () -> x.count(6));
        due("all worlds without wishes", 4, () -> x.count(7));
        wish(x, 0, "a");
        due("worlds of a", 3, () -> x.count(7));
        wish(x, 2, "!&tt");
        due("worlds of all", 0, () -> x.count(7));
        wish(x, 2, "EX!b");
        due("worlds of all", 1, () -> x.count(7));
        due("wishes", 2, () -> x.count(5));
        due("signs", 5, () -> x.count(6));
        due("saved states", 6, () -> x.count(8));
        x.fair(0);
        due("fair letter", 0, () -> x.count(4));
    }

    private static void fixes() {
        FutureWishes x = worlds("01 11", 0, 0);
        index("fixes(4, 0, 4)", () -> x.fixes(4, 0, 4));
        index("fixes(-1, 0, 0)", () -> x.fixes(-1, 0, 0));
        index("fixes(0, 2, 4)", () -> x.fixes(0, 2, 4));
        index("fixes(0, -1, 0)", () -> x.fixes(0, -1, 0));
        argument("fixes(0, 0, 4)", () -> x.fixes(0, 0, 4));
        argument("fixes(0, 0, -1)", () -> x.fixes(0, 0, -1));
        for (int what = 0; what < 4; what++) {
            int k = what;
            due("fixes of none", NONE, () -> x.fixes(0, 0, k));
        }
        wish(x, 0, "EXb");
        due("flips", 1, () -> x.fixes(0, 0, 0));
        due("the first flip", 5, () -> x.fixes(0, 0, 1));
        due("steps", 0, () -> x.fixes(0, 0, 2));
        due("the first step", NONE, () -> x.fixes(0, 0, 3));
        x.flip(1, 1);
        due("flips: all but that one", 7, () -> x.fixes(0, 0, 0));
        due("the first flip", 0, () -> x.fixes(0, 0, 1));
        due("steps: all but 0 to 1, and 1 to itself", 2, () -> x.fixes(0, 0, 2));
        due("the first step", 0, () -> x.fixes(0, 0, 3));
        wish(x, 0, "AXd");
        due("flips: of 1", 1, () -> x.fixes(0, 0, 0));
        due("the first flip", 7, () -> x.fixes(0, 0, 1));
        due("steps: no way then", 2, () -> x.fixes(0, 0, 2));
        due("the first step", 1, () -> x.fixes(0, 0, 3));
        due("in 1", 1, () -> x.fixes(0, 1, 2));
        due("in 1", 11, () -> x.fixes(0, 1, 3));
        x.fair(0);
        due("a fair letter: no way counts, one flip makes it so", 7, () -> x.fixes(0, 0, 0));
        due("nothing is changed", 2, () -> x.world(1, 0));
    }

    private static void ifFair() {
        FutureWishes x = worlds("00 01 11", 1, 2);
        index("ifFair(4, 4)", () -> x.ifFair(4, 4));
        index("ifFair(-1, 0)", () -> x.ifFair(-1, 0));
        argument("ifFair(0, 4)", () -> x.ifFair(0, 4));
        argument("ifFair(0, -2)", () -> x.ifFair(0, -2));
        due("ifFair of none", NONE, () -> x.ifFair(0, 0));
        wish(x, 0, "AFb");
        due("wish(0, 1)", 0b10, () -> x.wish(0, 1));
        due("without a fair letter", 0b10, () -> x.ifFair(0, NONE));
        due("with a", 0b10, () -> x.ifFair(0, 0));
        due("with b", 0b11, () -> x.ifFair(0, 1));
        due("with d", 0b11, () -> x.ifFair(0, 3));
        x.fair(1);
        due("without a fair letter", 0b10, () -> x.ifFair(0, NONE));
        due("nothing is changed", 1, () -> x.count(4));
        due("wish(0, 1)", 0b11, () -> x.wish(0, 1));
    }

    private static void fulfilled() {
        FutureWishes x = new FutureWishes();
        due("nothing", 1.0, () -> x.fulfilled());
        wish(x, 0, "a");
        due("a wish without worlds", 1.0, () -> x.fulfilled());
        FutureWishes y = worlds("", 1, 3, 2);
        due("worlds without wishes", 1.0, () -> y.fulfilled());
        wish(y, 1, "!t");
        due("0 of 3", 0.0, () -> y.fulfilled());
        wish(y, 1, "a");
        due("2 of 3", 2.0 / 3.0, () -> y.fulfilled());
        wish(y, 3, "&ab");
        due("3 of 6", 0.5, () -> y.fulfilled());
        wish(y, 0, "c");
        due("3 of 9", 3.0 / 9.0, () -> y.fulfilled());
        y.giveUp(0);
        y.giveUp(3);
        wish(y, 1, "t");
        due("3 of 3", 1.0, () -> y.fulfilled());
    }

    private static FutureWishes someState() {
        FutureWishes x = worlds("01 12 20 22", 1, 2, 7);
        wish(x, 0, "EGa");
        wish(x, 1, "AUab");
        type(x, "E");
        return x;
    }

    /** Looks and calls that throw change nothing: the digest tells. */
    private static void nothingIsChanged() {
        int[] odd = {MIN, -2, -1, 0, 1, 2, 3, 4, 5, 9, 10, 11, 40, 41, 127, MAX};
        for (int a : odd) {
            for (int b : odd) {
                FutureWishes x = someState();
                long before = x.digest();
                lookOrThrow(x, a, b);
                due("digest() behind calls with " + a + " and " + b, before, () -> x.digest());
            }
        }
    }

    private static void lookOrThrow(FutureWishes x, int a, int b) {
        got(() -> x.world(a, b));
        got(() -> x.wish(a, b));
        got(() -> x.sign(a, b, 1));
        got(() -> x.sign(0, a, b));
        got(() -> x.witness(a, b, 1));
        got(() -> x.witness(0, a, b));
        got(() -> x.compare(a, b));
        got(() -> x.count(a));
        got(() -> x.fixes(0, a, b));
        got(() -> x.fixes(a, b, 0));
        got(() -> x.ifFair(a, b));
        got(() -> x.fulfilled());
        got(() -> x.firstError());
        got(() -> x.read(a));
        got(() -> a < 0 || a > 3 ? x.negate(a) : 0);
        got(() -> a < 0 || a > 3 ? x.giveUp(a) : 0);
        got(() -> a < 0 || a > 15 ? x.addWorld(a) : 0);
        got(() -> a < 0 || a > 2 ? x.step(a, b) : 0);
        got(() -> a < 0 || a > 2 ? x.flip(a, b) : 0);
        got(() -> a < 0 || a > 2 ? x.removeWorld(a) : 0);
        got(() -> a < -1 || a > 3 ? x.fair(a) : 0);
        got(() -> a < 33 || a > 126 ? x.append(a) : 0);
    }
}
