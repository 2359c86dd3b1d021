/**
 * The sentences of "What it is" and "Terms", each with its boundary cases. The
 * answers that are due were worked out by hand.
 */
public final class TermsSentencesTest {
    private static final int NONE = Run.NONE;
    private static final String TEN = "worlds 0 1 2 3 4 5 6 7 8 9";

    /** Ten worlds in a row, all with "a" but the last one, which has "b" and goes on to itself. */
    private static final String CHAIN = "worlds 1 1 1 1 1 1 1 1 1 2; steps 01 12 23 34 45 56 67 78 89 99";

    /** Two worlds that are not live, without and with all letters, and one that is. */
    private static final String DEAD = "worlds 0 15 1; steps 01 22";

    private TermsSentencesTest() {
    }

    public static void main(String[] args) {
        whatItIs();
        terms();
        worldsWays();
        wishes();
        wishesOverWays();
        signsOfTexts();
        roundsUntil();
        roundsAlways();
        roundsOfOthers();
        witnesses();
        witnessesUntil();
        witnessesAround();
        witnessesAgainst();
        inputText();
        undo();
        exceptions();
        severalExceptions();
        Sentences.end("TermsSentencesTest", "What it is", "Exceptions");
    }

    private static void test(String words, Runnable body) {
        Sentences.test(words, body);
    }

    private static Run of(String row) {
        return Run.of(row);
    }

    private static String many(String text, int times) {
        return Run.many(text, times);
    }

    private static void whatItIs() {
        Sentences.section("What it is");
        Sentences.plain("Wishes over trees of futures");
        test("An object is used for at most 512 calls after it has been made", () -> {
            lastCall("count(0)", 10);
            lastLook("digest()");
            lastLook("fixes(0, 0, 2)");
            lastLook("witness(0, 9, 11)");
            lastCall("removeWorld(9)", 9);
            lastCall("undo()", 5);
            lastCall("ring()", 11);
            lastCall("append(97)", 2);
            lastCall("clearBuffer()", 1);
            lastRefused("addWorld(0)", "IllegalStateException");
            lastRefused("step(0, 10)", "IndexOutOfBoundsException");
            lastRefused("flip(0, 4)", "IllegalArgumentException");
        });
        test("at most 512 calls", () -> {
            Run dear = of(TEN + "; ring(); wish 0 " + longWish());
            String first = dear.ask("fixes(0, 0, 2)");
            while (dear.callsMade() < 512) {
                dear.due("fixes(0, 0, 2)", Long.parseLong(first));
            }
        });
        Sentences.plain("what later calls answer is free");
    }

    /** Forty signs, all of which are gone through for each change that is tried. */
    private static String longWish() {
        return many("EUaAUb", 6) + "EG!a";
    }

    private static final String BUSY = TEN + "; ring(); wish 0 EGt; step(0, 5); text E";

    private static Run beforeLast() {
        Run run = of(BUSY);
        while (run.callsMade() < 511) {
            run.then("count(1)");
        }
        return run;
    }

    private static void lastCall(String call, int want) {
        beforeLast().due(call, want);
    }

    /** The last call answers as an early one does. */
    private static void lastLook(String call) {
        beforeLast().same(call, of(BUSY));
    }

    private static void lastRefused(String call, String exception) {
        Sentences.due("511 calls", call, "throws " + exception, beforeLast().ask(call));
    }

    private static void terms() {
        Sentences.section("Terms");
        test("All numbers are integers, but for a share.", () -> {
            for (java.lang.reflect.Method method : FutureWishes.class.getMethods()) {
                if (method.getDeclaringClass() == FutureWishes.class) {
                    String want = method.getName().equals("fulfilled") ? "double"
                        : method.getName().equals("digest") ? "long" : "int";
                    Sentences.due("", method.getName(), want, method.getReturnType().getName());
                }
            }
        });
    }

    private static void worldsWays() {
        Sentences.section("Worlds, ways");
        test("There are at most 10 worlds", () -> {
            of("worlds 0 1 2 3 4 5 6 7 8").due("addWorld(9)", 9).due("count(0)", 10);
            of(TEN).state("addWorld(0)", "addWorld(15)").due("count(0)", 10);
            of(TEN + "; removeWorld(3)").due("addWorld(15)", 9).state("addWorld(0)");
            of(TEN + "; undo()").due("count(0)", 9).due("addWorld(15)", 9).state("addWorld(0)");
        });
        test("numbered from 0 in the order in which they came", () -> {
            Run run = of("");
            for (int world = 0; world < 10; world++) {
                run.index("world(" + world + ", 0)").due("addWorld(" + (15 - world) + ")", world);
            }
            for (int world = 0; world < 10; world++) {
                run.due("world(" + world + ", 0)", 15 - world);
            }
            run.index("world(10, 0)", "world(-1, 0)");
        });
        test("(if one is removed, those behind it have numbers that are less by 1)", () -> {
            of(TEN + "; ring(); removeWorld(0)").due("world(0, 0)", 1).due("world(8, 0)", 9)
                .due("world(0, 1)", 0b10).due("world(7, 1)", 1 << 8).due("world(8, 1)", 0).due("count(1)", 8);
            of(TEN + "; ring(); removeWorld(9)").due("world(0, 0)", 0).due("world(8, 0)", 8)
                .due("world(0, 1)", 0b10).due("world(7, 1)", 1 << 8).due("world(8, 1)", 0).due("count(1)", 8);
            of(TEN + "; ring(); steps 09 90 95; removeWorld(5)").due("world(4, 0)", 4).due("world(5, 0)", 6)
                .due("world(4, 1)", 0).due("world(5, 1)", 1 << 6).due("world(0, 1)", 0b10 | 1 << 8)
                .due("world(8, 1)", 0).due("world(8, 2)", 1 | 1 << 7).index("world(9, 0)");
        });
        test("A world has some of the letters \"a\" to \"d\", numbered from 0", () -> {
            of("worlds 0 1 2 4 8 15").holds("a", 0b100010).holds("b", 0b100100).holds("c", 0b101000).holds("d", 0b110000);
            of("worlds 0; flip(0, 0)").holds("a", 1).holds("d", 0);
            of("worlds 0; flip(0, 3)").holds("a", 0).holds("d", 1);
        });
        test("there are steps from worlds to worlds (perhaps to itself)", () -> {
            of("worlds 0").due("step(0, 0)", 1).due("world(0, 1)", 1).due("world(0, 2)", 1).due("world(0, 3)", 1);
            of(TEN).due("step(9, 9)", 1).due("world(9, 1)", 1 << 9).due("count(1)", 1);
            Run full = of(TEN);
            for (int pair = 0; pair < 100; pair++) {
                full.due("step(" + pair / 10 + ", " + pair % 10 + ")", 1);
            }
            full.due("count(1)", 100).due("world(0, 1)", 1023).due("world(9, 2)", 1023).due("count(2)", 10);
        });
        test("A way is a row of worlds without end, each with a step to the next one.", () -> {
            of("worlds 15").due("count(2)", 0).holds("EFa", 0);
            of("worlds 1 1 1 1 1 1 1 1 1 2; steps 01 12 23 34 45 56 67 78 89").due("count(2)", 0).holds("EFt", 0);
            of(CHAIN).due("count(2)", 10).holds("EFt", 1023);
        });
        test("If there is a fair letter, only fair ways count", () -> {
            of("worlds 1 1; ring()").due("count(2)", 2).then("fair(1)").due("count(2)", 0).holds("EFa", 0)
                .holds("AFb", 0b11).then("flip(1, 1)").due("count(2)", 2).holds("EFa", 0b11);
        });
        test("those on which worlds with this letter come without end", () -> {
            of("worlds 1 0; steps 01 11; fair(0)").due("world(0, 3)", 0).due("count(2)", 0);
            of("worlds 1 0; steps 00 01; fair(0)").due("world(0, 3)", 1).due("world(1, 3)", 0).holds("AX!t", 0b10)
                .holds("EF!a", 0).holds("AGa", 0b11);
            of("worlds 0 1; steps 00 01; fair(0)").due("count(2)", 0);
            of("worlds 0 1; steps 00 01 10; fair(0)").due("count(2)", 2).holds("EG!a", 0).holds("AFa", 0b11);
            of("worlds 1 2; ring(); fair(0)").due("count(2)", 2).then("fair(1)").due("count(2)", 2);
        });
        test("A world is live if some way that counts begins there.", () -> {
            of("").due("count(2)", 0);
            of("worlds 0").due("world(0, 3)", 0).then("step(0, 0)").due("world(0, 3)", 1);
            of(DEAD).due("world(0, 3)", 0).due("world(1, 3)", 0).due("world(2, 3)", 1).then("step(1, 2)").due("count(2)", 3)
                .then("fair(3)").due("count(2)", 0).then("fair(0)").due("count(2)", 3);
        });
    }

    private static void wishes() {
        Sentences.section("Wishes");
        test("There are 4 wishes, numbered from 0, at first none.", () -> {
            Run run = of("worlds 0");
            for (int wish = 0; wish < 4; wish++) {
                run.due("wish(" + wish + ", 0)", NONE).due("wish(" + wish + ", 1)", NONE).due("giveUp(" + wish + ")", 0);
            }
            of("").due("count(5)", 0).due("count(6)", 0);
            of("worlds 1; wish 0 a; wish 3 EXa").due("wish(0, 0)", 1).due("wish(1, 0)", NONE).due("wish(2, 0)", NONE)
                .due("wish(3, 0)", 3).due("count(5)", 2);
            for (String out : new String[] {"4", "-1", "MAX", "MIN"}) {
                of("worlds 1; text a").index("read(" + out + ")", "negate(" + out + ")", "giveUp(" + out + ")",
                    "wish(" + out + ", 0)", "sign(" + out + ", 0, 0)", "witness(" + out + ", 0, 0)",
                    "compare(" + out + ", 0)", "compare(0, " + out + ")", "fixes(" + out + ", 0, 0)",
                    "ifFair(" + out + ", 0)");
            }
        });
        test("A wish is a row of signs, 1 to 40", () -> {
            of("").argument("read(0)");
            of("text a").due("read(0)", 1).due("wish(0, 0)", 1);
            of("text " + many("!", 39) + "t").due("read(0)", 40).due("wish(0, 0)", 40).due("sign(0, 39, 0)", 't');
            of("text " + many("!", 40) + "t").argument("read(0)").due("wish(0, 0)", NONE);
            of("text " + many("&", 19) + many("a", 20)).due("read(0)", 39);
            of("text " + many("&", 20) + many("a", 21)).argument("read(0)");
            of("wish 0 !a; negate(0)").due("wish(0, 0)", 1);
        });
        test("it is told by its text.", () -> {
            String longest = many("EUa", 6) + many("&d", 6) + "|!bAXAFAGc";
            of("wish 0 " + longest).told(0, longest).told(1, "");
            of("wish 3 t").told(3, "t").then("wish 3 EUab").told(3, "EUab");
        });
        test("It holds in a world or not", () -> {
            of("").holds("t", 0).holds("!t", 0);
            of(TEN).holds("t", 1023).holds("!t", 0).holds("d", 0b1100000000);
        });
        test("w, v are wishes here, of one sign or more", () -> {
            of(CHAIN).holds("EUa&bEXb", 1023).holds("EU|ab!a", 1023).holds("&EXbEFa", 1 << 8).holds("!EX!EXa", 127);
        });
        test("\"a\" to \"d\": the world has this letter; \"t\": always.", () -> {
            of("worlds 1 2 4 8 0 15").holds("a", 0b100001).holds("b", 0b100010).holds("c", 0b100100).holds("d", 0b101000)
                .holds("t", 0b111111);
        });
        test("\"!\" w: w does not hold.", () -> of("worlds 1 2 3 0").holds("!a", 0b1010).holds("!!a", 0b0101).holds("!t", 0));
        test("\"&\" w v: both hold.", () -> of("worlds 1 2 3 0").holds("&ab", 0b0100).holds("&aa", 0b0101).holds("&ta", 0b0101));
        test("\"|\" w v: one holds, or both.", () -> of("worlds 1 2 3 0").holds("|ab", 0b0111).holds("|a!t", 0b0101));
    }

    private static void wishesOverWays() {
        test("\"E\" and \"X\" w: on some way from this world that counts, w holds in its second world.", () -> {
            of("worlds 1 2; steps 00 01").holds("EXa", 0b01).holds("EXb", 0).then("step(1, 1)").holds("EXb", 0b11);
            of("worlds 1 2 0; steps 01 12 22").holds("EXa", 0).holds("EXb", 0b001).holds("EX!a", 0b111);
            of("worlds 1 2; steps 00 01 11; fair(0)").holds("EXb", 0).holds("EXa", 0b01);
        });
        test("\"E\" and \"F\" w: on some such way, w holds in some world (also the first one).", () -> {
            of("worlds 1 2; steps 01 11").holds("EFa", 0b01).holds("EFb", 0b11).holds("EFc", 0);
            of(DEAD).holds("EFa", 0b100).holds("EFb", 0).holds("EFt", 0b100);
            of(CHAIN).holds("EFb", 1023).holds("EFa", 511);
            of("worlds 1 2 0; steps 00 01 02 11; fair(0)").holds("EFb", 0).holds("EFa", 0b001);
        });
        test("\"E\" and \"G\" w: on some such way, w holds in all worlds.", () -> {
            of("worlds 1 1 2; steps 01 10 12 22").holds("EGa", 0b011).holds("EGb", 0b100).holds("EGt", 0b111)
                .then("step(1, 0)").holds("EGa", 0);
            of("worlds 1").holds("EGa", 0).then("step(0, 0)").holds("EGa", 1);
            of("worlds 1 3; steps 00 01; fair(1)").holds("EGa", 0).then("step(1, 0)").holds("EGa", 0b11).holds("EG!b", 0);
        });
        test("\"E\" and \"U\" w v: on some such way, v holds in some world, and w holds in all worlds ahead of it.", () -> {
            of("worlds 1 0 2; steps 01 12 22").holds("EUab", 0b100).then("flip(1, 0)").holds("EUab", 0b111);
            of("worlds 0 2; ring()").holds("EUab", 0b10).holds("EUtb", 0b11).holds("EU!tb", 0b10).holds("EUt!t", 0);
            of("worlds 1 2; steps 01").holds("EUab", 0).then("step(1, 1)").holds("EUab", 0b11);
        });
        test("\"A\" and \"X\", \"F\", \"G\" or \"U\" likewise: on all ways from this world that count", () -> {
            of("worlds 1 1 2; steps 01 02 11 22").holds("AXa", 0b010).holds("AXb", 0b100).holds("AX|ab", 0b111)
                .holds("AFb", 0b100).holds("AF|ab", 0b111).holds("AGa", 0b010).holds("AG!c", 0b111)
                .holds("AUab", 0b100).holds("AUa|ab", 0b111);
            of("worlds 1 0 2; steps 01 12 22").holds("AUab", 0b100).then("flip(1, 0)").holds("AUab", 0b111);
            of("worlds 1 2 0; steps 00 01 11 02").holds("AFb", 0b110).then("fair(1)").holds("AFb", 0b111).holds("AXb", 0b110);
        });
        test("(so it holds if there is none)", () -> {
            for (String text : new String[] {"AX!t", "AF!t", "AG!t", "AU!t!t"}) {
                of(DEAD).holds(text, 0b011).then("fair(3)").holds(text, 0b111);
            }
            for (String text : new String[] {"EXt", "EFt", "EGt", "EUtt"}) {
                of(DEAD).holds(text, 0b100).then("fair(3)").holds(text, 0);
            }
        });
    }

    private static void signsOfTexts() {
        test("In a text, each of these letters is a sign of its own (\"EXa\" has three).", () -> {
            of("text EXa").due("read(0)", 3).told(0, "EXa").index("sign(0, 3, 0)");
            of("text AUab").due("read(0)", 4);
        });
        test("Signs are numbered from 0; the part of a sign is the wish that begins with it", () -> {
            of("worlds 1 2; wish 0 &!ab").due("sign(0, 0, 0)", '&').due("sign(0, 0, 3)", 4).due("sign(0, 1, 0)", '!')
                .due("sign(0, 1, 3)", 2).due("sign(0, 1, 1)", 0b10).due("sign(0, 2, 1)", 0b01).due("sign(0, 3, 0)", 'b')
                .due("sign(0, 3, 3)", 1).index("sign(0, 4, 0)", "sign(0, -1, 0)");
        });
        test("\"E\" and \"A\" are signs with a part, \"X\", \"F\", \"G\" and \"U\" have none of their own.", () -> {
            for (String text : new String[] {"EXa", "EFa", "EGa", "EUab", "AXa", "AFa", "AGa", "AUab"}) {
                of("worlds 3; steps 00; wish 2 " + text).due("sign(2, 0, 1)", 1)
                    .due("sign(2, 0, 3)", text.length()).due("sign(2, 1, 0)", text.charAt(1)).due("sign(2, 1, 1)", NONE)
                    .due("sign(2, 1, 2)", NONE).due("sign(2, 1, 3)", NONE).due("sign(2, 2, 3)", 1);
            }
        });
    }

    private static void roundsUntil() {
        Sentences.section("Rounds");
        test("The sets of worlds of the parts \"EF\", \"EG\", \"EU\" and their likes are found in rounds.", () ->
            of(CHAIN).rounds("EFb", 9).rounds("EGa", 9).rounds("EUab", 9).rounds("AFb", 9).rounds("AGa", 9).rounds("AUtb", 9));
        test("the set begins as the live worlds in which v holds", () -> {
            of("worlds 1 1 2; steps 01 12").rounds("EUab", 0).holds("EUab", 0).then("step(2, 2)").rounds("EUab", 2);
            of("worlds 1 1 2; steps 01 12 22; fair(0)").rounds("EUab", 0).then("fair(1)").rounds("EUab", 2);
            of(CHAIN).rounds("EUac", 0).rounds("EUta", 0);
        });
        test("(and \"EF\" w, where the first wish always holds, and the second one is w)", () ->
            of(CHAIN + "; flip(4, 0)").rounds("EUab", 4).rounds("EFb", 9).holds("EFb", 1023));
        test("in each round the worlds in which w holds", () ->
            of(CHAIN + "; flip(4, 0)").rounds("EUab", 4).holds("EUab", 0b1111100000).rounds("EUtb", 9).rounds("EU!tb", 0));
        test("and from which a step leads into the set as it was, are added", () -> {
            of(CHAIN).rounds("EUab", 9).then("step(0, 9)").rounds("EUab", 8).then("step(3, 9)").rounds("EUab", 5);
            of("worlds 1 1 1 2; steps 03 13 23 33").rounds("EUab", 1);
        });
        test("until nothing is added", () -> {
            of("").rounds("EFt", 0).rounds("EUtt", 0);
            of(CHAIN).rounds("EFt", 0).rounds("EUab", 9);
            of("worlds 1 2; ring()").rounds("EFb", 1).rounds("EF|ab", 0);
        });
    }

    private static void roundsAlways() {
        test("For \"EG\" w the set begins as the worlds in which w holds", () -> {
            of(CHAIN).rounds("EGc", 0).rounds("EGb", 0).rounds("EGt", 0).holds("EGb", 1 << 9);
            of("worlds 1 0 1; steps 01 12").rounds("EGa", 1).rounds("EGt", 3);
        });
        test("in each round those are taken out (all at once)", () -> {
            of("worlds 1 1 1 1 1 1 1 1 1 1").rounds("EGa", 1);
            of("worlds 1 1 1 1; steps 01 02 03 00").rounds("EGa", 1).then("steps 00").rounds("EGa", 2);
        });
        test("from which no row of one step or more", () -> {
            of("worlds 1 0; steps 01 11; fair(0)").rounds("EGt", 1).holds("EGt", 0);
            of("worlds 1; fair(0)").rounds("EGt", 1).then("step(0, 0)").rounds("EGt", 0);
            of("worlds 1 0; ring(); fair(0)").rounds("EGt", 0).holds("EGt", 0b11);
        });
        test("all of whose worlds are in the set as it was", () -> {
            of("worlds 1 0 3; steps 01 12 22; fair(1)").rounds("EGa", 1).holds("EGa", 0b100).rounds("EGt", 0);
            of("worlds 1 1 3; steps 01 12; fair(1)").rounds("EGa", 2).holds("EGa", 0);
        });
        test("leads to a world of it that has the fair letter", () -> {
            of(CHAIN + "; fair(0)").rounds("EGt", 9).holds("EGt", 0);
            of(CHAIN + "; fair(1)").rounds("EGt", 0).holds("EGt", 1023).rounds("EGa", 1).holds("EGa", 0);
            of(CHAIN + "; flip(9, 0); flip(9, 1); fair(1)").rounds("EGa", 1);
        });
        test("(without a fair letter: to any world of it)", () ->
            of("worlds 1 1 3; steps 01 12").rounds("EGa", 3).then("step(2, 2)").rounds("EGa", 0));
        test("until nothing is taken out.", () -> {
            of("worlds 1 1 1 1 1 1 1 1 1 1; steps 01 12 23 34 45 56 67 78 89").rounds("EGa", 10).holds("EGa", 0);
            of("").rounds("EGt", 0);
        });
        test("The rounds are those in which something changed.", () -> {
            of("worlds 1 1; ring()").rounds("EGa", 0).rounds("EFa", 0).rounds("EGb", 0).rounds("EFb", 0);
            of("worlds 1 1 2; steps 01 10 12 22").rounds("EGa", 0).rounds("EFb", 2).rounds("EG|ab", 0);
        });
    }

    private static void roundsOfOthers() {
        test("For \"AF\" w the rounds are those of \"EG\" \"!\" w", () ->
            of(CHAIN).rounds("AFb", 9).rounds("EG!b", 9).rounds("AFa", 0).rounds("EFa", 0).rounds("AF!a", 9));
        test("for \"AG\" w those of \"EF\" \"!\" w", () ->
            of(CHAIN).rounds("AGa", 9).rounds("EF!a", 9).rounds("AGt", 0).rounds("AG!b", 9).rounds("AGb", 0));
        test("for \"AU\" w v those of \"EU\" with \"!\" v, and neither w nor v, and those of \"EG\" \"!\" v, together.", () -> {
            of("worlds 1 1 1 2; steps 01 12 23 33").rounds("AUab", 3).rounds("AUtb", 3).rounds("AUcb", 3).rounds("AUbt", 0)
                .rounds("AUbc", 0).then("flip(1, 0)").rounds("AUab", 4).then("flip(1, 0); flip(2, 0)").rounds("AUab", 5);
            of(CHAIN + "; flip(8, 0)").rounds("AUab", 8 + 9);
        });
        test("All other parts have 0 rounds.", () -> {
            for (String text : new String[] {"a", "t", "!EFb", "&EFbEFb", "|EFbEFb", "EXEFb", "AXEFb"}) {
                of(CHAIN).rounds(text, 0);
            }
        });
    }

    private static void witnesses() {
        Sentences.section("Witnesses");
        test("A witness of a wish in a world is a row of worlds that begins there.", () -> {
            of(CHAIN).row("EXa", 7, "78").row("EFb", 7, "789").row("EGt", 9, "999").row("EUtb", 9, "9").row("AFa", 9, "999");
            of("worlds 1; steps 00").row("EFa", 0, "0").row("EXa", 0, "00");
        });
        test("There is one if the first sign of the wish is \"E\" and it holds there", () -> {
            of(CHAIN).row("EXb", 8, "89").row("EXb", 7, "").row("EGa", 0, "").row("EFc", 0, "").row("EUcb", 8, "");
            of(DEAD).row("EFa", 1, "").row("EXt", 0, "").row("EGt", 1, "");
            for (String text : new String[] {"a", "t", "!AXc", "!t", "&EXaEXa", "|EXaEXa"}) {
                of(CHAIN).row(text, 0, "");
            }
            of(CHAIN).due("witness(0, 0, 0)", NONE).due("witness(3, 9, 0)", NONE);
        });
        test("or if it is \"A\" and it does not hold", () -> {
            of(CHAIN).row("AXb", 0, "01").row("AXb", 8, "").row("AXb", 9, "").row("AGb", 9, "").row("AFb", 0, "")
                .row("AUab", 0, "").row("AGa", 8, "89");
            of(DEAD).row("AX!t", 0, "").row("AF!t", 1, "").row("AG!t", 1, "").row("AU!t!t", 0, "").row("AX!t", 2, "22");
        });
        test("Of \"EX\" w: this world, and the lowest live one to which a step leads, and in which w holds.", () -> {
            of("worlds 1 1 0 1 1; steps 01 02 03 04 22 33 44").row("EXa", 0, "03").row("EX!a", 0, "02").row("EXt", 0, "02")
                .then("step(1, 1)").row("EXa", 0, "01").then("step(0, 0)").row("EXa", 0, "00");
            of(CHAIN + "; step(0, 9)").row("EXb", 0, "09").row("EXt", 0, "01").row("EXt", 9, "99");
            of("worlds 1 1; steps 00 01 11; flip(1, 1); fair(1)").row("EXa", 0, "00").row("EX!b", 0, "00").row("EXb", 1, "11");
        });
        test("Of \"AX\" w: that of \"EX\" \"!\" w.", () -> of("worlds 1 1 0 1 1; steps 01 02 03 04 22 33 44").row("AX!a", 0, "03")
            .row("AXa", 0, "02").row("AX!t", 0, "02").row("AXt", 0, "").row("AX!t", 1, ""));
    }

    private static void witnessesUntil() {
        test("Of \"EU\" w v: the shortest row of steps", () -> {
            of(CHAIN).row("EUab", 0, "0123456789").row("EUab", 8, "89").row("EUab", 9, "9").then("step(2, 9)")
                .row("EUab", 0, "0129").then("step(0, 8)").row("EUab", 0, "089").then("step(0, 9)").row("EUab", 0, "09");
        });
        test("to a live world in which v holds", () ->
            of("worlds 1 2 1 2; steps 01 02 23 33").row("EUab", 0, "023").then("step(1, 1)").row("EUab", 0, "01"));
        test("with w in all worlds ahead of it", () ->
            of("worlds 1 0 1 1 2; steps 01 14 02 23 34 44").row("EUab", 0, "0234").row("EUtb", 0, "014").row("EUab", 1, "")
                .row("EUtb", 1, "14").then("flip(4, 0)").row("EUab", 0, "0234").row("EU!tb", 4, "4"));
        test("of several the first one by its second world, then by its third one, and so on.", () -> {
            Run run = of("worlds 0 0 0 0 0 1; steps 01 02 13 14 23 24 35 45 55");
            run.row("EUta", 0, "0135").then("step(1, 3)").row("EUta", 0, "0145").then("step(1, 4)").row("EUta", 0, "0235")
                .then("step(2, 3)").row("EUta", 0, "0245");
            of("worlds 0 0 1 1; steps 01 12 13 22 33 03 02").row("EUta", 0, "02").row("EUta", 1, "12").then("step(1, 2)")
                .row("EUta", 1, "13");
            of("worlds 0 0 0 1 0; steps 04 41 42 43 13 23 33 02 01").row("EUta", 0, "013").then("step(0, 1)")
                .row("EUta", 0, "023").then("step(0, 2)").row("EUta", 0, "043");
        });
        test("Of \"EF\" w: likewise with w as the goal.", () -> {
            of(CHAIN + "; flip(4, 0)").row("EFb", 0, "0123456789").row("EUab", 0, "").row("EFb", 9, "9").row("EFa", 4, "45");
            of(DEAD).row("EFa", 1, "").row("EFa", 2, "2");
        });
        test("Of \"AG\" w: that of \"EF\" \"!\" w.", () -> {
            of(CHAIN).row("AGa", 0, "0123456789").row("AGb", 0, "0").row("AGb", 9, "").row("AGt", 0, "");
            of("worlds 1 0 1 0; steps 01 02 23 33").row("AGa", 0, "023").row("AGa", 1, "");
        });
    }

    private static void witnessesAround() {
        test("Of \"EG\" w: with the set that was found for it: from the present world the shortest row of one step or more", () -> {
            of("worlds 1; steps 00").row("EGa", 0, "000");
            of("worlds 1; steps 00; fair(0)").row("EGa", 0, "000");
            of("worlds 3 1 1; ring(); fair(1)").row("EGa", 0, "0120120").row("EGa", 1, "120120").row("EGa", 2, "20120")
                .then("step(1, 0)").row("EGa", 0, "01010").row("EGa", 2, "2010");
        });
        test("within the set, to a world of it that has the fair letter", () -> {
            of("worlds 1 2 3 1; steps 01 12 22 03 32; fair(1)").row("EGa", 0, "0322").row("EGt", 0, "0122");
            of("worlds 1 3 1 3; steps 01 02 23 33; fair(1)").row("EGa", 0, "0233").row("EGa", 1, "").row("EG!b", 0, "");
        });
        test("(without a fair letter: to any world of it)", () -> {
            of("worlds 1 0 1 1; steps 01 12 02 23 33").row("EGa", 0, "0233").row("EGt", 0, "01233");
            of("worlds 0 0; ring()").row("EGt", 0, "0101").row("EGt", 1, "1010");
        });
        test("of several the first one as told", () -> {
            of("worlds 0 0 0 1 1; steps 01 02 13 24 33 44; fair(0)").row("EGt", 0, "0133").then("step(1, 3)")
                .row("EGt", 0, "0244");
            of("worlds 0 0 0 0; steps 03 02 01 11 22 33").row("EGt", 0, "011").then("step(0, 1)").row("EGt", 0, "022");
        });
        test("then on from there likewise, until it comes to such a goal world that was reached as a goal before (with which the row ends",
            () -> {
                of("worlds 0 1 0 1 0; steps 01 12 23 34 41; fair(0)").row("EGt", 0, "012341");
                of(TEN + "; ring()").row("EGt", 0, "012345678901").row("EGt", 9, "901234567890");
                of("worlds 1 0 0 0 0 0 0 0 0 0; ring(); fair(0)").row("EGt", 1, "12345678901234567890");
            });
        test("the present world is no goal that was reached)", () -> {
            of("worlds 1 1; ring(); fair(0)").row("EGt", 0, "0101").row("EGt", 1, "1010");
            of("worlds 1 0; ring(); fair(0)").row("EGt", 0, "01010").row("EGt", 1, "1010");
            of("worlds 1 0 0 0 0 0 0 0 0 0; ring(); fair(0)").row("EGt", 0, "012345678901234567890");
        });
    }

    private static void witnessesAgainst() {
        test("Of \"AF\" w: that of \"EG\" \"!\" w.", () -> {
            of("worlds 0 0; ring()").row("AFa", 0, "0101");
            of("worlds 0 1 0; steps 01 02 11 22").row("AFa", 0, "022").row("AFa", 1, "").row("AFt", 0, "");
            of("worlds 2 0; ring(); fair(1)").row("AFa", 0, "01010").row("AFb", 0, "");
        });
        test("Of \"AU\" w v: that of \"EU\" with \"!\" v, and neither w nor v, if that holds there", () -> {
            of("worlds 1 0 0; steps 00 01 12 22").row("AUab", 0, "01").row("AUab", 1, "1").row("AUcb", 0, "0");
            of("worlds 1 1 0 2; steps 00 01 13 02 22 33").row("AUab", 0, "02").then("step(0, 2)").row("AUab", 0, "000");
        });
        test("otherwise that of \"EG\" \"!\" v.", () -> {
            of("worlds 1 0; steps 00 01").row("AUab", 0, "000").then("step(1, 1)").row("AUab", 0, "01");
            of("worlds 1 1 2; steps 01 10 12 22").row("AUab", 0, "0101").row("AUab", 1, "1010").row("AUab", 2, "")
                .then("fair(1)").row("AUab", 0, "");
        });
    }

    private static void inputText() {
        Sentences.section("Input text");
        test("The buffer has at most 60 characters.", () -> {
            of("text " + many("a", 59)).due("append(97)", 60).state("append(97)", "append(33)").due("clearBuffer()", 60)
                .due("append(97)", 1);
            of("text " + many("!", 60)).due("firstError()", 39).argument("read(0)").due("clearBuffer()", 60);
        });
        test("A wish as a text is as told.", () -> {
            for (int code = 33; code <= 126; code++) {
                of("append(" + code + ")").due("firstError()", "abcdt!&|EA".indexOf(code) >= 0 ? 1 : 0);
                of("text E; append(" + code + ")").due("firstError()", "XFGU".indexOf(code) >= 0 ? 2 : 1);
                of("text AU; append(" + code + ")").due("firstError()", "abcdt!&|EA".indexOf(code) >= 0 ? 3 : 2);
            }
        });
        test("The buffer is read from left to right; a character is a syntax error if no wish", () -> {
            of("").due("firstError()", 0);
            of("text ab").due("firstError()", 1);
            of("text &ab!").due("firstError()", 3);
            of("text XX").due("firstError()", 0);
            of("text EUa&b").due("firstError()", 5);
        });
        test("of at most 40 signs", () -> {
            of("text " + many("!", 39)).due("firstError()", 39).due("append(97)", 40).due("firstError()", 40);
            of("text " + many("!", 39)).then("append(33)").due("firstError()", 39);
            of("text " + many("!", 38)).then("text EXa").due("firstError()", 38);
            of("text " + many("!", 37)).then("text EXa").due("firstError()", 40).due("read(0)", 40);
            of("text " + many("!", 37)).then("text EUaa").due("firstError()", 38);
            of("text " + many("!", 36)).then("text EUaa").due("firstError()", 40).due("read(0)", 40);
            of("text " + many("!", 38)).then("text &aa").due("firstError()", 38);
            of("text " + many("!", 37)).then("text |aa").due("firstError()", 40).due("read(0)", 40);
            of("text " + many("&", 20)).due("firstError()", 19);
            of("text " + many("&", 19)).due("firstError()", 19).then("text !" + many("a", 20)).due("firstError()", 40)
                .due("read(0)", 40);
            of("text " + many("&", 19) + "!!").due("firstError()", 20);
        });
        test("begins with the characters before it and this character.", () -> {
            of("text " + many("!", 39) + "aa").due("firstError()", 40);
            of("text " + many("!", 39) + "E").due("firstError()", 39);
            of("text a" + many("b", 59)).due("firstError()", 1);
        });
    }

    private static void undo() {
        String[] undoables = {"addWorld(5)", "removeWorld(1)", "step(0, 1)", "flip(1, 3)", "fair(2)", "ring()", "read(2)",
            "negate(0)", "giveUp(0)"};
        Sentences.section("Undo");
        test("Each method that is marked \"undoable\" and does not throw an exception saves the state from before it", () -> {
            for (String call : undoables) {
                of("worlds 1 2; wish 0 EXa; text !b").undoable(call);
                of("worlds 1 2; wish 0 EXa; steps 01 10 11 01; text !b").undoable(call);
            }
        });
        test("does not throw an exception", () -> {
            of("text a; append(33)").argument("addWorld(16)", "fair(4)", "read(0)").index("removeWorld(0)", "step(0, 0)",
                "flip(0, 0)", "giveUp(4)").state("negate(0)", "undo()").due("count(8)", 0);
        });
        test("Each method that is marked \"undoable\"", () -> {
            Run run = of("worlds 1 2; wish 0 EXa; undo(); undo(); text a");
            for (String call : new String[] {"append(97)", "firstError()", "clearBuffer()", "world(0, 4)", "wish(0, 1)",
                "count(8)", "compare(0, 0)", "fixes(0, 0, 0)", "ifFair(0, 0)", "witness(0, 0, 0)", "fulfilled()", "digest()"}) {
                run.then(call).due("count(8)", 1);
            }
        });
        test("(also if it changes nothing)", () -> {
            of("").due("ring()", 0).due("count(8)", 1);
            of("").due("fair(NONE)", NONE).due("count(8)", 1);
            of("").due("giveUp(3)", 0).due("count(8)", 1);
            of("worlds 0; ring()").due("ring()", 1).due("count(8)", 3).due("undo()", 2).due("count(1)", 1);
            of("wish 0 a; text a").due("read(0)", 1).due("count(8)", 2).due("undo()", 1).due("wish(0, 0)", 1);
        });
        test("all but the buffer and the saved states.", () -> {
            of("worlds 1 2; wish 0 EXa; fair(1); text !b; undo()").due("count(4)", NONE).due("firstError()", 2)
                .due("undo()", 2).due("wish(0, 0)", NONE).due("read(1)", 2).due("undo()", 2).due("clearBuffer()", 0);
            of("text a; read(0); undo()").due("clearBuffer()", 0).due("wish(0, 0)", NONE);
            of("worlds 1; undo(); worlds 2").due("undo()", 0).state("undo()");
        });
        test("At most 6 states are saved", () -> {
            of("worlds 0 1 2 3 4").due("count(8)", 5).then("worlds 5").due("count(8)", 6).then("worlds 6").due("count(8)", 6);
            of(TEN).due("count(8)", 6).due("undo()", 5).then("ring()").due("count(8)", 6);
        });
        test("the oldest one is dropped first.", () -> {
            Run six = of("worlds 0 1 2 3 4 5");
            Run seven = of("worlds 0 1 2 3 4 5 6");
            for (int left = 5; left >= 0; left--) {
                six.due("undo()", left).due("count(0)", left);
                seven.due("undo()", left).due("count(0)", left + 1);
            }
            six.state("undo()").due("count(0)", 0);
            seven.state("undo()").due("count(0)", 1);
            // so many that the oldest one goes around more than once
            Run many = of("worlds 1");
            for (int k = 0; k < 20; k++) {
                many.then("flip(0, " + k % 4 + ")");
            }
            many.due("world(0, 0)", 14).due("undo()", 5).due("world(0, 0)", 6).due("undo()", 4).due("world(0, 0)", 2)
                .then("fair(2); fair(3); ring()").due("count(8)", 6).due("undo()", 5).due("count(1)", 0)
                .due("undo()", 4).due("count(4)", 2).due("undo()", 3).due("count(4)", NONE).due("undo()", 2)
                .due("world(0, 0)", 0).due("undo()", 1).due("world(0, 0)", 1).due("undo()", 0).due("world(0, 0)", 9)
                .state("undo()").due("world(0, 0)", 9);
        });
    }

    private static void exceptions() {
        Sentences.section("Exceptions");
        test("A call that throws an exception changes nothing.", () -> {
            of(TEN).argument("addWorld(-1)", "addWorld(16)").state("addWorld(0)");
            of("worlds 1 2; ring(); fair(1); wish 1 a; text EX").index("removeWorld(2)", "step(0, 2)", "step(2, 0)", "flip(2, 0)",
                "read(4)", "negate(-1)", "giveUp(4)", "world(2, 0)", "wish(4, 0)", "sign(1, 1, 0)", "witness(1, 2, 0)",
                "compare(1, 4)", "fixes(1, 2, 0)", "ifFair(4, 0)").argument("flip(1, 4)", "fair(4)", "append(32)", "read(1)",
                "world(1, 5)", "wish(1, 4)", "sign(1, 0, 4)", "witness(1, 0, -1)", "count(9)", "fixes(1, 0, 4)", "ifFair(1, 4)")
                .state("negate(0)");
            of("text " + many("a", 60)).state("append(97)", "undo()");
            of("worlds 1; wish 2 " + many("&a", 19) + "!a").state("negate(2)").due("wish(2, 0)", 40);
        });
    }

    private static void severalExceptions() {
        test("If several exceptions apply, the one that is named first in the throws clause is thrown.", () -> {
            of(TEN).argument("addWorld(16)");
            of("worlds 1").index("flip(1, 4)", "flip(-1, -1)");
            of("text " + many("a", 60)).argument("append(32)", "append(127)");
            of("text E").index("read(4)", "read(-1)");
            of("").index("negate(4)", "negate(-1)");
            of("").index("world(0, 5)").then("worlds 1").index("world(1, 5)", "world(-1, -1)");
            of("").index("wish(4, 4)", "wish(-1, -1)");
            of("wish 0 a").index("sign(4, 0, 4)", "sign(0, 1, 4)", "sign(0, -1, -1)", "sign(1, 0, 4)");
            of("worlds 1").index("witness(4, 0, -1)", "witness(0, 1, -1)", "witness(4, 1, -1)");
            of("worlds 1").index("fixes(4, 0, 4)", "fixes(0, 1, 4)", "fixes(-1, -1, -1)");
            of("").index("ifFair(4, 4)", "ifFair(-1, -2)");
        });
        test("`NONE = -1`: There is nothing to return.", () ->
            Sentences.due("", "NONE", "-1", Integer.toString(FutureWishes.NONE)));
        Sentences.plain("Ahead of the calls `addWorld`");
        Sentences.plain("Ahead of the calls `append`");
        test("looks; nothing is changed.", () -> {
            Run run = of("worlds 1 2; ring(); fair(1); wish 1 EUab; text EX");
            for (String call : new String[] {"world(0, 4)", "wish(1, 3)", "sign(1, 1, 2)", "witness(1, 0, 5)", "compare(1, 1)",
                "count(7)"}) {
                run.changesNothing(call);
            }
        });
        test("what would be; nothing is changed.", () -> {
            Run run = of("worlds 1 2; ring(); fair(1); wish 1 EUab; text EX");
            for (String call : new String[] {"fixes(1, 0, 0)", "fixes(1, 0, 2)", "ifFair(1, 0)", "ifFair(1, NONE)", "fulfilled()",
                "digest()"}) {
                run.changesNothing(call);
            }
        });
    }
}
