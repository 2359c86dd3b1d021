/**
 * The sentences of the promises 1 to 14 (what changes worlds, wishes and the
 * buffer), each with its boundary cases. The answers that are due were worked
 * out by hand.
 */
public final class ChangeSentencesTest {
    private static final int NONE = Run.NONE;
    private static final String TEN = "worlds 0 1 2 3 4 5 6 7 8 9";
    private static final String NO_SUCH_WORLD = "Throws `IndexOutOfBoundsException` if there is no such world";
    private static final String NO_SUCH_WISH = "Throws `IndexOutOfBoundsException` if there is no wish with such a number";

    private ChangeSentencesTest() {
    }

    public static void main(String[] args) {
        newObject();
        addWorld();
        removeWorld();
        step();
        flip();
        fair();
        ring();
        append();
        clearBuffer();
        firstError();
        read();
        readRefused();
        negate();
        giveUp();
        undo();
        Sentences.end("ChangeSentencesTest", "Promise 1: A new object", "Promise 14: undo");
    }

    private static void test(String words, Runnable body) {
        Sentences.test(words, body);
    }

    private static Run of(String row) {
        return Run.of(row);
    }

    private static String many(String text, int times) {
        return Run.many(text, times);
    }

    /** All 100 steps between ten worlds. */
    private static String allSteps() {
        StringBuilder row = new StringBuilder("steps");
        for (int pair = 0; pair < 100; pair++) {
            row.append(' ').append(pair / 10).append(pair % 10);
        }
        return row.toString();
    }

    private static void newObject() {
        Sentences.section("Promise 1: A new object");
        test("Creates no worlds", () -> of("").due("count(0)", 0).due("count(1)", 0).due("count(2)", 0).due("count(3)", 0)
            .due("count(7)", 0).index("world(0, 0)", "removeWorld(0)").due("addWorld(0)", 0));
        test("without wishes", () -> {
            of("").due("count(5)", 0).due("count(6)", 0).due("fulfilled()", 1.0);
            for (int wish = 0; wish < 4; wish++) {
                of("").due("wish(" + wish + ", 0)", NONE).state("negate(" + wish + ")").index("sign(" + wish + ", 0, 0)")
                    .told(wish, "");
            }
        });
        test("without a fair letter", () -> of("").due("count(4)", NONE).due("fair(NONE)", NONE));
        test("with an empty buffer.", () -> {
            of("").due("firstError()", 0).due("clearBuffer()", 0).argument("read(0)").due("append(97)", 1);
            // what another object holds is not there
            of("worlds 1; ring(); fair(0); wish 0 a; text EX").due("count(0)", 1);
            of("").due("clearBuffer()", 0).due("count(0)", 0).due("count(4)", NONE).due("count(5)", 0).due("count(8)", 0)
                .state("undo()");
        });
    }

    private static void addWorld() {
        Sentences.section("Promise 2: addWorld");
        test("Adds a world without steps.", () -> {
            of("worlds 1; step(0, 0)").due("addWorld(2)", 1).due("world(1, 1)", 0).due("world(1, 2)", 0).due("count(1)", 1)
                .due("count(0)", 2).due("world(0, 1)", 1);
            of(TEN + "; " + allSteps() + "; removeWorld(9); worlds 15").due("world(9, 1)", 0).due("world(9, 2)", 0)
                .due("world(9, 0)", 15).due("count(1)", 81);
            of("worlds 1; ring(); removeWorld(0); worlds 2").due("count(1)", 0);
            of("worlds 1 1; ring(); undo(); undo(); worlds 2").due("world(1, 0)", 2).due("count(1)", 0);
        });
        test("Undoable.", () -> {
            of("").undoable("addWorld(0)");
            of("worlds 0 1 2 3 4 5 6 7 8; ring()").undoable("addWorld(15)");
        });
        test("- `letters`: its letters, as a mask, 0 to 15: bit k for the letter k", () -> {
            for (int mask = 0; mask <= 15; mask++) {
                of("").due("addWorld(" + mask + ")", 0).due("world(0, 0)", mask).holds("a", mask & 1).holds("b", mask >> 1 & 1)
                    .holds("c", mask >> 2 & 1).holds("d", mask >> 3);
            }
        });
        test("Returns its number.", () -> {
            Run run = of("");
            for (int number = 0; number < 10; number++) {
                run.due("addWorld(0)", number);
            }
            of(TEN + "; removeWorld(0)").due("addWorld(0)", 9);
            of("worlds 0 1; removeWorld(0); removeWorld(0)").due("addWorld(0)", 0);
        });
        test("Throws `IllegalArgumentException` if letters is out of range", () -> {
            of("").argument("addWorld(-1)", "addWorld(16)", "addWorld(MIN)", "addWorld(MAX)").due("addWorld(15)", 0);
            of("worlds 1; ring(); text a").argument("addWorld(-1)", "addWorld(16)", "addWorld(31)");
        });
        test("Throws `IllegalStateException` if there are 10 worlds", () -> {
            of(TEN).state("addWorld(0)", "addWorld(15)").due("count(0)", 10).due("count(8)", 6);
            of("worlds 0 1 2 3 4 5 6 7 8").due("addWorld(0)", 9).state("addWorld(0)").due("undo()", 5).due("addWorld(1)", 9);
        });
    }

    private static void removeWorld() {
        Sentences.section("Promise 3: removeWorld");
        test("Removes a world with its steps.", () -> {
            of("worlds 1 2 4; steps 00 01 10 11 12 21 22").due("removeWorld(1)", 2).due("count(1)", 2).due("world(0, 0)", 1)
                .due("world(1, 0)", 4).due("world(0, 1)", 0b01).due("world(1, 1)", 0b10).index("world(2, 0)");
            of(TEN + "; " + allSteps() + "; removeWorld(9)").due("count(1)", 81).due("world(8, 1)", 511);
            of(TEN + "; " + allSteps() + "; removeWorld(0)").due("count(1)", 81).due("world(0, 0)", 1).due("world(8, 1)", 511);
            of("worlds 1 1; ring(); fair(2); wish 1 EXa; text b; removeWorld(0)").due("count(1)", 0).due("count(4)", 2)
                .due("wish(1, 0)", 3).due("clearBuffer()", 1);
        });
        test("Undoable.", () -> {
            for (String world : new String[] {"0", "4", "9"}) {
                of(TEN + "; ring(); steps 09 44 94; wish 0 EGb").undoable("removeWorld(" + world + ")");
            }
            of("worlds 1; ring()").undoable("removeWorld(0)");
        });
        test("- `world`: its number", () -> {
            of("worlds 1 2 4").due("removeWorld(0)", 2).due("world(0, 0)", 2).due("world(1, 0)", 4);
            of("worlds 1 2 4").due("removeWorld(2)", 2).due("world(0, 0)", 1).due("world(1, 0)", 2);
        });
        test("Returns how many worlds there are then.", () -> {
            Run run = of(TEN);
            for (int left = 9; left >= 0; left--) {
                run.due("removeWorld(0)", left).due("count(0)", left);
            }
        });
        test(NO_SUCH_WORLD, () -> {
            of("").index("removeWorld(0)", "removeWorld(-1)");
            of("worlds 1 2; ring(); text a").index("removeWorld(2)", "removeWorld(-1)", "removeWorld(10)", "removeWorld(MIN)",
                "removeWorld(MAX)", "removeWorld(32)").due("removeWorld(1)", 1).index("removeWorld(1)");
            of(TEN).index("removeWorld(10)", "removeWorld(-1)").due("removeWorld(9)", 9).index("removeWorld(9)");
        });
    }

    private static void step() {
        Sentences.section("Promise 4: step");
        test("Adds a step, or takes it away, if it is there.", () -> {
            of("worlds 0 0").due("step(0, 1)", 1).due("world(0, 1)", 0b10).due("world(1, 1)", 0).due("step(0, 1)", 0)
                .due("world(0, 1)", 0).due("count(1)", 0).due("step(0, 1)", 1).due("step(1, 0)", 1).due("step(0, 1)", 0)
                .due("world(1, 1)", 0b01).due("count(1)", 1);
            of("worlds 0; ring()").due("step(0, 0)", 0).due("count(1)", 0);
            of(TEN + "; " + allSteps()).due("count(1)", 100).due("step(0, 9)", 0).due("step(9, 0)", 0).due("count(1)", 98);
        });
        test("Undoable.", () -> {
            of(TEN + "; ring()").undoable("step(0, 9)").undoable("step(9, 0)").undoable("step(9, 9)");
            of("worlds 0").undoable("step(0, 0)");
        });
        test("- `from`: the number of a world", () ->
            of(TEN).due("step(0, 5)", 1).due("step(9, 5)", 1).due("world(5, 2)", 1 | 1 << 9).due("world(5, 1)", 0));
        test("- `to`: the number of a world", () ->
            of(TEN).due("step(5, 0)", 1).due("step(5, 9)", 1).due("world(5, 1)", 1 | 1 << 9).due("world(5, 2)", 0));
        test("Returns 1 if it is there then, otherwise 0.", () -> of(TEN).due("step(9, 9)", 1).due("step(9, 9)", 0)
            .due("step(9, 9)", 1).due("step(9, 0)", 1).due("step(9, 9)", 0).due("step(0, 9)", 1).due("step(9, 0)", 0));
        test(NO_SUCH_WORLD, () -> {
            of("").index("step(0, 0)");
            of("worlds 1 2; ring(); text a").index("step(0, 2)", "step(2, 0)", "step(2, 2)", "step(-1, 0)", "step(0, -1)",
                "step(0, 32)", "step(32, 0)", "step(MIN, 0)", "step(0, MAX)");
            of(TEN).index("step(9, 10)", "step(10, 9)");
            of("worlds 1 2; removeWorld(0)").index("step(0, 1)", "step(1, 0)").due("step(0, 0)", 1);
        });
    }

    private static void flip() {
        Sentences.section("Promise 5: flip");
        test("Gives a world a letter, or takes it away, if it has it.", () -> of("worlds 0 15").due("flip(0, 0)", 1)
            .due("flip(0, 3)", 9).due("flip(0, 0)", 8).due("flip(0, 3)", 0).due("flip(1, 3)", 7).due("flip(1, 3)", 15)
            .due("world(0, 0)", 0));
        test("Undoable.", () -> of("worlds 0 15").undoable("flip(0, 0)").undoable("flip(1, 3)"));
        test("- `world`: its number", () -> of(TEN).due("flip(0, 3)", 8).due("flip(9, 3)", 1).due("world(0, 0)", 8)
            .due("world(9, 0)", 1).due("world(8, 0)", 8));
        test("- `letter`: 0 to 3", () -> {
            for (int letter = 0; letter <= 3; letter++) {
                of("worlds 0").due("flip(0, " + letter + ")", 1 << letter).due("flip(0, " + letter + ")", 0);
            }
        });
        test("Returns its letters then.", () -> of("worlds 5").due("flip(0, 1)", 7).due("flip(0, 2)", 3).due("flip(0, 0)", 2)
            .due("flip(0, 1)", 0).due("flip(0, 3)", 8).due("world(0, 0)", 8));
        test(NO_SUCH_WORLD, () -> {
            of("").index("flip(0, 0)");
            of("worlds 1 2; text a").index("flip(2, 0)", "flip(-1, 0)", "flip(MIN, 3)", "flip(MAX, 3)");
            of(TEN).index("flip(10, 0)");
        });
        test("Throws `IllegalArgumentException` if letter is out of range", () ->
            of("worlds 1 2; text a").argument("flip(0, 4)", "flip(0, -1)", "flip(1, NONE)", "flip(1, 32)", "flip(1, MIN)",
                "flip(1, MAX)"));
    }

    private static void fair() {
        Sentences.section("Promise 6: fair");
        test("Changes the fair letter.", () -> of("worlds 1 8; steps 00 11").due("fair(0)", NONE).due("count(4)", 0)
            .due("world(0, 3)", 1).due("world(1, 3)", 0).due("fair(3)", 0).due("count(4)", 3).due("world(0, 3)", 0)
            .due("world(1, 3)", 1).due("fair(1)", 3).due("count(2)", 0).due("fair(NONE)", 1).due("count(2)", 2));
        test("Undoable.", () -> {
            of("worlds 1; ring()").undoable("fair(0)").undoable("fair(3)").undoable("fair(NONE)");
            of("worlds 1; ring(); fair(2)").undoable("fair(0)").undoable("fair(2)").undoable("fair(NONE)");
        });
        test("- `letter`: 0 to 3, or NONE: there is none", () -> {
            for (int letter = NONE; letter <= 3; letter++) {
                of("fair(2)").due("fair(" + letter + ")", 2).due("count(4)", letter);
            }
        });
        test("Returns the previous one, NONE if there was none.", () -> of("").due("fair(NONE)", NONE).due("fair(0)", NONE)
            .due("fair(3)", 0).due("fair(3)", 3).due("fair(NONE)", 3).due("fair(NONE)", NONE).due("fair(1)", NONE));
        test("Throws `IllegalArgumentException` if letter is out of range", () -> {
            of("").argument("fair(4)", "fair(-2)", "fair(MIN)", "fair(MAX)").due("count(4)", NONE);
            of("worlds 1; ring(); fair(0); text a").argument("fair(4)", "fair(-2)", "fair(32)").due("count(4)", 0);
        });
    }

    private static void ring() {
        Sentences.section("Promise 7: ring");
        test("Lets worlds follow one another: each gets a step to the next one, and the last one to the first one", () -> {
            of("").due("ring()", 0).due("count(1)", 0).due("count(0)", 0);
            of("worlds 1").due("ring()", 1).due("world(0, 1)", 1);
            of("worlds 1 1").due("ring()", 2).due("world(0, 1)", 0b10).due("world(1, 1)", 0b01);
            Run ten = of(TEN).due("ring()", 10);
            for (int world = 0; world < 10; world++) {
                ten.due("world(" + world + ", 1)", 1 << (world + 1) % 10);
            }
        });
        test("besides those that there are.", () -> {
            of("worlds 1; step(0, 0)").due("ring()", 1).due("world(0, 1)", 1);
            of("worlds 1 1 1; steps 01 02 11").due("ring()", 5).due("world(0, 1)", 0b110).due("world(1, 1)", 0b110)
                .due("world(2, 1)", 0b001);
        });
        test("Undoable.", () -> {
            of("").undoable("ring()");
            of("worlds 1").undoable("ring()");
            of(TEN + "; steps 01 02 99").undoable("ring()").then("ring()").undoable("ring()");
        });
        test("Returns how many steps there are then.", () -> {
            of(TEN + "; steps 05").due("ring()", 11).due("ring()", 11);
            of(TEN + "; " + allSteps()).due("ring()", 100);
        });
    }

    private static void append() {
        Sentences.section("Promise 8: append");
        test("Appends a character to the buffer.", () -> {
            of("text E").due("firstError()", 1).due("append(85)", 2).due("append(97)", 3).due("append(98)", 4)
                .due("read(0)", 4).told(0, "EUab");
            of("text ab; clearBuffer()").due("append(99)", 1).due("read(0)", 1).told(0, "c");
        });
        test("- `code`: the character code, 33 to 126", () -> {
            Run run = of("");
            for (int code = 33; code <= 126; code++) {
                run.due("append(" + code + ")", 1).then("clearBuffer()");
            }
        });
        test("Returns the new length of the buffer.", () -> {
            Run run = of("");
            for (int length = 1; length <= 60; length++) {
                run.due("append(97)", length);
            }
            run.then("clearBuffer()").due("append(97)", 1);
        });
        test("Throws `IllegalArgumentException` if code is not 33 to 126", () -> {
            of("text a").argument("append(32)", "append(127)", "append(0)", "append(-1)", "append(128)", "append(255)",
                "append(65633)", "append(353)", "append(MIN)", "append(MAX)").due("clearBuffer()", 1);
            of("text " + many("a", 60)).argument("append(32)", "append(127)");
        });
        test("Throws `IllegalStateException` if the buffer has 60 characters", () -> {
            of("text " + many("a", 60)).state("append(97)", "append(33)", "append(126)").due("clearBuffer()", 60);
            of("text " + many("a", 59)).due("append(98)", 60).state("append(97)").then("clearBuffer()").due("append(97)", 1);
        });
    }

    private static void clearBuffer() {
        Sentences.section("Promise 9: clearBuffer");
        test("Clears the buffer.", () -> {
            of("text aa").due("firstError()", 1).then("clearBuffer()").due("firstError()", 0).argument("read(0)")
                .due("append(98)", 1).due("read(0)", 1).told(0, "b");
            of("worlds 1; wish 0 a; text EX; clearBuffer()").due("count(8)", 2).due("undo()", 1).due("clearBuffer()", 0);
        });
        test("Returns the length that it had.", () -> {
            of("").due("clearBuffer()", 0).due("clearBuffer()", 0);
            of("text ~").due("clearBuffer()", 1).due("clearBuffer()", 0);
            of("text " + many("~", 60)).due("clearBuffer()", 60).due("clearBuffer()", 0);
        });
    }

    private static void firstError() {
        Sentences.section("Promise 10: firstError");
        test("Finds the first syntax error of the buffer.", () -> {
            of("text aaXX").due("firstError()", 1);
            of("text X").due("firstError()", 0).then("text a").due("firstError()", 0);
            of("text EXa!b").due("firstError()", 3);
            of("text EXa").changesNothing("firstError()");
            of("text EE").changesNothing("firstError()").due("firstError()", 1).due("clearBuffer()", 2);
        });
        test("Returns the index of the first character that is a syntax error", () -> {
            of("append(33); append(34)").due("firstError()", 1);
            of("append(126)").due("firstError()", 0);
            of("text " + many("!", 39) + "t" + many("a", 20)).due("firstError()", 40);
            of("text " + many("!", 60)).due("firstError()", 39);
            of("text &a" + many("&a", 29)).due("firstError()", 38);
        });
        test("the length of the buffer if there is none.", () -> {
            of("").due("firstError()", 0);
            for (String text : new String[] {"a", "E", "EU", "EUa", "EUab", "!", "&", "&a", "|ab", "AG", "!!!!!!"}) {
                of("text " + text).due("firstError()", text.length());
            }
            of("text " + many("!", 39) + "t").due("firstError()", 40);
            of("text " + many("!", 39)).due("firstError()", 39);
        });
    }

    private static void read() {
        Sentences.section("Promise 11: read");
        test("Makes a wish the one in the buffer", () -> {
            of("text EUab").due("read(2)", 4).told(2, "EUab").told(0, "").told(1, "").told(3, "");
            of("wish 1 EUab; wish 1 c").told(1, "c").then("wish 1 " + many("!", 39) + "t").told(1, many("!", 39) + "t")
                .then("wish 1 AXd").told(1, "AXd");
            of("worlds 1 2; wish 0 a; wish 1 b; wish 3 !a; wish 1 t").told(0, "a").told(1, "t").told(3, "!a")
                .due("wish(1, 1)", 0b11);
        });
        test("and clears the buffer.", () -> {
            of("text a; read(0)").due("clearBuffer()", 0);
            of("text a; read(0)").argument("read(0)").due("firstError()", 0).due("append(97)", 1);
        });
        test("Undoable.", () -> {
            of("worlds 1; text EXa").undoable("read(0)").undoable("read(3)");
            of("worlds 1; wish 0 a; text a").undoable("read(0)");
            of("worlds 1; wish 0 EUab; text a; read(0); undo()").told(0, "EUab").due("clearBuffer()", 0);
        });
        test("- `wish`: 0 to 3", () -> {
            for (int wish = 0; wish <= 3; wish++) {
                of("text !a").due("read(" + wish + ")", 2).told(wish, "!a").due("count(5)", 1);
            }
        });
        test("Returns how many signs it has.", () -> {
            of("text t").due("read(0)", 1);
            of("text EXa").due("read(0)", 3);
            of("text " + many("!", 38) + "t").due("read(0)", 39);
            of("text " + many("!", 39) + "t").due("read(0)", 40);
        });
    }

    private static void readRefused() {
        test(NO_SUCH_WISH, () -> {
            of("text a").index("read(4)", "read(-1)", "read(MIN)", "read(MAX)").due("read(0)", 1);
            of("text E").index("read(4)", "read(NONE)");
        });
        test("Throws `IllegalArgumentException` if the buffer is not a complete wish as a text", () -> {
            of("").argument("read(0)", "read(3)");
            for (String text : new String[] {"!", "&", "&a", "|", "|a", "E", "A", "EX", "AF", "EG", "EU", "EUa", "AUa", "&EXa",
                many("!", 39), many("&a", 19) + "!"}) {
                of("worlds 1; wish 0 a; text " + text).argument("read(0)", "read(1)").due("clearBuffer()", text.length());
            }
            for (String text : new String[] {"X", "aa", "EXab", "EEXa", "Ea", "EXXa", "e", "T", "a~", "~a", "1",
                many("!", 40) + "a", many("&", 20) + many("a", 21), many("!", 39) + "ab", many("!", 60)}) {
                of("worlds 1; wish 0 a; text " + text).argument("read(0)", "read(1)").due("clearBuffer()", text.length());
            }
            of("text EX").argument("read(0)").due("append(97)", 3).due("read(0)", 3);
        });
    }

    private static void negate() {
        Sentences.section("Promise 12: negate");
        test("Turns a wish into its contrary: a \"!\" comes ahead of it", () -> {
            of("worlds 1 2; wish 1 a; wish 2 b; negate(1)").told(1, "!a").told(2, "b").told(0, "").due("wish(1, 1)", 0b10);
            of("wish 3 EU!ab; negate(3)").told(3, "!EU!ab");
            of("wish 0 &!ab; negate(0)").told(0, "!&!ab");
        });
        test("if its first sign is \"!\", that is taken away instead.", () -> {
            of("worlds 1 2; wish 1 !a; wish 2 b; negate(1)").told(1, "a").told(2, "b").due("wish(1, 1)", 0b01);
            of("wish 0 !!a; negate(0)").told(0, "!a").then("negate(0)").told(0, "a").then("negate(0)").told(0, "!a");
            of("wish 3 !EU!ab; negate(3)").told(3, "EU!ab");
        });
        test("Undoable.", () -> {
            of("worlds 1 2; wish 1 a").undoable("negate(1)").then("negate(1)").undoable("negate(1)");
            of("worlds 1; wish 0 " + many("!", 39) + "a").undoable("negate(0)");
        });
        test("- `wish`: 0 to 3", () -> {
            for (int wish = 0; wish <= 3; wish++) {
                of("wish 0 a; wish 1 b; wish 2 c; wish 3 d").due("negate(" + wish + ")", 2).told(wish, "!" + "abcd".charAt(wish))
                    .due("count(6)", 5);
            }
        });
        test("Returns how many signs it has then.", () -> {
            of("wish 0 a").due("negate(0)", 2).due("negate(0)", 1).due("negate(0)", 2);
            of("wish 0 " + many("!", 39) + "a").due("negate(0)", 39).due("negate(0)", 38);
        });
        test(NO_SUCH_WISH, () -> of("wish 0 a").index("negate(4)", "negate(-1)", "negate(MIN)", "negate(MAX)"));
        test("Throws `IllegalStateException` if there is none at present", () -> {
            of("").state("negate(0)", "negate(3)");
            of("wish 0 a; giveUp(0)").state("negate(0)");
            of("wish 0 !a; giveUp(0); wish 1 a").state("negate(0)").due("negate(1)", 2);
        });
        test("or it would have more than 40 signs", () -> {
            of("wish 2 " + many("&a", 19) + "!a").state("negate(2)").due("wish(2, 0)", 40);
            of("wish 2 " + many("&a", 19) + "a").due("negate(2)", 40).told(2, "!" + many("&a", 19) + "a").due("negate(2)", 39);
            of("wish 2 " + many("!", 39) + "a").due("negate(2)", 39).told(2, many("!", 38) + "a");
            of("wish 1 " + many("&a", 19) + "a; negate(1); wish 2 b; wish 0 c").told(1, "!" + many("&a", 19) + "a").told(2, "b")
                .told(0, "c");
        });
    }

    private static void giveUp() {
        Sentences.section("Promise 13: giveUp");
        test("Gives a wish up.", () -> of("worlds 1; wish 0 EXa; wish 1 b; giveUp(0)").due("wish(0, 0)", NONE).told(0, "")
            .told(1, "b").due("count(5)", 1).due("count(6)", 1).index("sign(0, 0, 0)").state("negate(0)")
            .due("world(0, 4)", 0).due("count(7)", 0).due("giveUp(1)", 1).due("count(7)", 1));
        test("Undoable.", () -> {
            of("worlds 1; wish 0 EXa; wish 3 b").undoable("giveUp(0)").undoable("giveUp(3)").undoable("giveUp(1)");
            of("").undoable("giveUp(0)");
        });
        test("- `wish`: 0 to 3", () -> {
            for (int wish = 0; wish <= 3; wish++) {
                of("wish 0 a; wish 1 !b; wish 2 EXc; wish 3 EUcd").due("giveUp(" + wish + ")", wish + 1).told(wish, "")
                    .due("count(6)", 10 - wish - 1);
            }
        });
        test("Returns how many signs it had, 0 if there was none.", () -> {
            of("").due("giveUp(0)", 0).due("giveUp(3)", 0);
            of("wish 0 t").due("giveUp(0)", 1).due("giveUp(0)", 0);
            of("wish 0 " + many("!", 39) + "t").due("giveUp(0)", 40).due("giveUp(0)", 0);
        });
        test(NO_SUCH_WISH, () -> of("wish 0 a; wish 3 b; text a").index("giveUp(4)", "giveUp(-1)", "giveUp(MIN)", "giveUp(MAX)"));
    }

    private static void undo() {
        Sentences.section("Promise 14: undo");
        test("Restores the latest saved state, and drops it.", () -> {
            of("worlds 1 2; flip(0, 1)").due("undo()", 2).due("world(0, 0)", 1).due("undo()", 1).due("count(0)", 1)
                .due("undo()", 0).due("count(0)", 0);
            of("worlds 1 2; steps 01; undo(); steps 10").due("undo()", 2).due("count(1)", 0).due("undo()", 1).due("count(0)", 1);
            of("worlds 1 2; ring(); fair(1); wish 0 EGb; removeWorld(0)").due("undo()", 5).due("count(0)", 2).due("count(1)", 2)
                .due("wish(0, 0)", 3).due("undo()", 4).due("wish(0, 0)", NONE).due("undo()", 3).due("count(4)", NONE)
                .due("undo()", 2).due("count(1)", 0);
            of("wish 0 " + many("!", 39) + "t; wish 0 a; undo()").told(0, many("!", 39) + "t");
        });
        test("Returns how many saved states are left.", () -> {
            Run full = of(TEN);
            for (int left = 5; left >= 0; left--) {
                full.due("undo()", left).due("count(8)", left);
            }
            of("worlds 1").due("undo()", 0);
            of("worlds 1; undo(); ring(); ring()").due("undo()", 1);
        });
        test("Throws `IllegalStateException` if there is none", () -> {
            of("").state("undo()");
            of("text a").state("undo()").due("clearBuffer()", 1);
            of("worlds 1; undo()").state("undo()").due("count(0)", 0);
            of(TEN + "; undo(); undo(); undo(); undo(); undo(); undo()").state("undo()").due("count(0)", 4);
        });
    }
}
