import java.math.BigInteger;

/**
 * The sentences of the promises 15 to 24 (looks, and what would be), each with
 * its boundary cases. The answers that are due were worked out by hand.
 */
public final class LookSentencesTest {
    private static final int NONE = Run.NONE;
    private static final String TEN = "worlds 0 1 2 3 4 5 6 7 8 9";
    private static final String NO_SUCH_WORLD = "Throws `IndexOutOfBoundsException` if there is no such world";
    private static final String NO_SUCH_WISH = "Throws `IndexOutOfBoundsException` if there is no wish with such a number";
    private static final String NOT_0_TO_3 = "Throws `IllegalArgumentException` if what is not 0 to 3";

    private LookSentencesTest() {
    }

    public static void main(String[] args) {
        world();
        wish();
        wishRounds();
        wishDepths();
        sign();
        witness();
        compare();
        count();
        fixes();
        fixesAtTheEdges();
        ifFair();
        fulfilled();
        digest();
        notPromised();
        Sentences.end("LookSentencesTest", "Promise 15: world", "Not promised");
    }

    private static void test(String words, Runnable body) {
        Sentences.test(words, body);
    }

    private static Run of(String row) {
        return Run.of(row);
    }

    private static String many(String text, int times) {
        return Run.many(text, times);
    }

    private static void world() {
        Sentences.section("Promise 15: world");
        test("Returns a property of a world.", () -> of("worlds 5; ring(); text E").changesNothing("world(0, 0)")
            .changesNothing("world(0, 3)").changesNothing("world(0, 4)"));
        test("- `world`: its number", () -> of(TEN).due("world(0, 0)", 0).due("world(9, 0)", 9).then("removeWorld(0)")
            .due("world(0, 0)", 1).due("world(8, 0)", 9).index("world(9, 0)"));
        test("0: its letters", () -> of("worlds 0 15").due("world(0, 0)", 0).due("world(1, 0)", 15));
        test("1: the worlds to which a step leads, as a mask", () -> of(TEN + "; steps 00 09 50 59").due("world(0, 1)", 513)
            .due("world(5, 1)", 513).due("world(9, 1)", 0).then("ring()").due("world(9, 1)", 1).due("world(8, 1)", 512));
        test("2: those from which a step leads here", () -> of(TEN + "; steps 00 90 05 95").due("world(0, 2)", 513)
            .due("world(5, 2)", 513).due("world(9, 2)", 0).then("ring()").due("world(9, 2)", 256).due("world(1, 2)", 1));
        test("3: 1 if it is live, otherwise 0", () -> of("worlds 0 0 1; steps 01 22").due("world(0, 3)", 0).due("world(1, 3)", 0)
            .due("world(2, 3)", 1).then("fair(1)").due("world(2, 3)", 0).then("step(1, 2); fair(0)").due("world(0, 3)", 1));
        test("4: the wishes that hold here, as a mask", () -> {
            of("worlds 0 1").due("world(0, 4)", 0);
            of("worlds 0 1; wish 0 a; wish 3 !a").due("world(0, 4)", 8).due("world(1, 4)", 1);
            of("worlds 0; wish 0 t; wish 1 t; wish 2 t; wish 3 t").due("world(0, 4)", 15).then("giveUp(2)").due("world(0, 4)", 11);
            of("worlds 0; wish 0 !t; wish 3 EXt").due("world(0, 4)", 0);
        });
        test("Returns the property.", () -> of("worlds 3; ring(); wish 1 EGa").due("world(0, 0)", 3).due("world(0, 1)", 1)
            .due("world(0, 2)", 1).due("world(0, 3)", 1).due("world(0, 4)", 2));
        test(NO_SUCH_WORLD, () -> {
            of("").index("world(0, 0)", "world(-1, 0)");
            of("worlds 1 2; text a").index("world(2, 0)", "world(-1, 4)", "world(MIN, 0)", "world(MAX, 0)", "world(2, 5)");
            of(TEN).index("world(10, 3)");
        });
        test("Throws `IllegalArgumentException` if what is not 0 to 4", () ->
            of("worlds 1; text a").argument("world(0, 5)", "world(0, -1)", "world(0, MIN)", "world(0, MAX)"));
    }

    private static void wish() {
        Sentences.section("Promise 16: wish");
        test("Returns a property of a wish.", () -> of("worlds 5; ring(); wish 0 EGa; text E").changesNothing("wish(0, 0)")
            .changesNothing("wish(0, 2)").changesNothing("wish(1, 3)"));
        test("- `wish`: 0 to 3", () -> {
            for (int wish = 0; wish <= 3; wish++) {
                of("worlds 1; wish 0 a; wish 1 !b; wish 2 EXc; wish 3 EUcd").due("wish(" + wish + ", 0)", wish + 1);
            }
        });
        test("0: its signs, how many", () -> {
            of("wish 0 t").due("wish(0, 0)", 1);
            of("wish 0 " + many("!", 39) + "t").due("wish(0, 0)", 40);
        });
        test("1: the worlds in which it holds, as a mask", () -> {
            of("wish 0 t").due("wish(0, 1)", 0);
            of(TEN + "; wish 0 t; wish 1 !t; wish 2 d").due("wish(0, 1)", 1023).due("wish(1, 1)", 0).due("wish(2, 1)", 768);
        });
        test("Returns the property; NONE if there is none at present.", () -> {
            of("worlds 1; wish 1 a; wish 2 a; giveUp(2)").due("wish(1, 1)", 1);
            for (int what = 0; what <= 3; what++) {
                of("").due("wish(0, " + what + ")", NONE).due("wish(3, " + what + ")", NONE);
                of("worlds 1; wish 1 a; wish 2 a; giveUp(2)").due("wish(0, " + what + ")", NONE).due("wish(2, " + what + ")", NONE)
                    .due("wish(3, " + what + ")", NONE);
            }
        });
        test(NO_SUCH_WISH, () -> of("worlds 1; wish 0 a; wish 3 a; text a").index("wish(4, 0)", "wish(-1, 0)", "wish(MIN, 3)",
            "wish(MAX, 3)", "wish(4, 4)"));
        test(NOT_0_TO_3, () -> of("wish 0 a; text a").argument("wish(0, 4)", "wish(0, -1)", "wish(1, 4)", "wish(1, -1)",
            "wish(0, MIN)", "wish(0, MAX)"));
    }

    private static void wishRounds() {
        test("2: the rounds of all its parts together, each once", () -> {
            String chain = "worlds 1 1 1 2; steps 01 12 23 33";
            of(chain + "; wish 0 a").due("wish(0, 2)", 0);
            of(chain + "; wish 0 EXEXa").due("wish(0, 2)", 0);
            of(chain + "; wish 0 EFb").due("wish(0, 2)", 3);
            of(chain + "; wish 0 !EFb").due("wish(0, 2)", 3);
            of(chain + "; wish 0 &EFbAFb").due("wish(0, 2)", 6);
            // EFb holds everywhere, so that the one around it has no rounds of its own
            of(chain + "; wish 0 EGEFb").due("wish(0, 2)", 3);
            of(chain + "; wish 0 EF&bEGb").due("wish(0, 2)", 3);
            of(chain + "; wish 0 AUEFbEGb").due("wish(0, 2)", 6);
            of("wish 0 EFb").due("wish(0, 2)", 0);
            of("worlds 1 1 1 1 1 1 1 1 1 1; steps 01 12 23 34 45 56 67 78 89; wish 0 "
                + many("&EGa", 9) + "EGa").due("wish(0, 2)", 100);
        });
    }

    private static void wishDepths() {
        test("3: the most of its signs that stand one within the other: 1 for a letter or \"t\"", () -> {
            for (String text : new String[] {"a", "b", "c", "d", "t"}) {
                of("wish 0 " + text).due("wish(0, 3)", 1);
            }
        });
        test("otherwise 1 more than the most of the parts behind its first sign", () -> {
            of("wish 0 !a").due("wish(0, 3)", 2);
            of("wish 0 &ab").due("wish(0, 3)", 2);
            of("wish 0 &!!ab").due("wish(0, 3)", 4);
            of("wish 0 |a!!b").due("wish(0, 3)", 4);
            of("wish 0 " + many("!", 39) + "a").due("wish(0, 3)", 40);
            of("wish 0 " + many("&a", 19) + "!a").due("wish(0, 3)", 21);
        });
        test("(or, behind \"E\" and \"A\", behind its first two signs)", () -> {
            of("wish 0 EXa").due("wish(0, 3)", 2);
            of("wish 0 AUab").due("wish(0, 3)", 2);
            of("wish 0 AUa!b").due("wish(0, 3)", 3);
            of("wish 0 EU!!ab").due("wish(0, 3)", 4);
            of("wish 0 EXAFEGa").due("wish(0, 3)", 4);
            of("wish 0 " + many("EX", 19) + "!a").due("wish(0, 3)", 21);
        });
    }

    private static void sign() {
        String wish = "worlds 1 1 1 2; steps 01 12 23 33; wish 1 &EUab!AXEFb";
        Sentences.section("Promise 17: sign");
        test("Returns a property of a sign of a wish.", () -> of(wish + "; text E").changesNothing("sign(1, 0, 0)")
            .changesNothing("sign(1, 1, 2)").changesNothing("sign(1, 10, 1)"));
        test("- `wish`: 0 to 3", () -> {
            for (int number = 0; number <= 3; number++) {
                of("wish 0 a; wish 1 b; wish 2 c; wish 3 d").due("sign(" + number + ", 0, 0)", 'a' + number);
            }
        });
        test("- `sign`: its number", () -> {
            of(wish).due("sign(1, 0, 0)", '&').due("sign(1, 10, 0)", 'b');
            of("wish 0 " + many("!", 39) + "t").due("sign(0, 0, 0)", '!').due("sign(0, 38, 0)", '!').due("sign(0, 39, 0)", 't')
                .index("sign(0, 40, 0)");
        });
        test("0: its character code", () -> {
            for (char letter : "abcdt".toCharArray()) {
                of("wish 0 " + letter).due("sign(0, 0, 0)", letter);
            }
            for (String text : new String[] {"!a", "&ab", "|ab", "EXa", "AFa", "EGa", "AUab"}) {
                of("wish 0 " + text).due("sign(0, 0, 0)", text.charAt(0)).due("sign(0, 1, 0)", text.charAt(1));
            }
        });
        test("1: the worlds in which its part holds, as a mask, NONE if it has no part", () -> of(wish).due("sign(1, 0, 1)", 0)
            .due("sign(1, 1, 1)", 15).due("sign(1, 2, 1)", NONE).due("sign(1, 3, 1)", 7).due("sign(1, 5, 1)", 0)
            .due("sign(1, 7, 1)", NONE).due("sign(1, 9, 1)", NONE).due("sign(1, 10, 1)", 8));
        test("2: the rounds of its part alone (without those of the parts within it), NONE likewise", () -> {
            of(wish).due("sign(1, 0, 2)", 0).due("sign(1, 1, 2)", 3).due("sign(1, 2, 2)", NONE).due("sign(1, 3, 2)", 0)
                .due("sign(1, 6, 2)", 0).due("sign(1, 7, 2)", NONE).due("sign(1, 8, 2)", 3).due("sign(1, 9, 2)", NONE);
            of("worlds 1 1 1 2; steps 01 12 23 33; wish 0 AFEGb").due("sign(0, 0, 2)", 3).due("sign(0, 2, 2)", 0);
        });
        test("3: how many signs its part has, NONE likewise", () -> {
            of(wish).due("sign(1, 0, 3)", 11).due("sign(1, 1, 3)", 4).due("sign(1, 2, 3)", NONE).due("sign(1, 3, 3)", 1)
                .due("sign(1, 5, 3)", 6).due("sign(1, 7, 3)", NONE).due("sign(1, 8, 3)", 3).due("sign(1, 9, 3)", NONE)
                .due("sign(1, 10, 3)", 1);
            of("wish 0 " + many("!", 39) + "t").due("sign(0, 0, 3)", 40).due("sign(0, 39, 3)", 1);
        });
        test("Returns the property.", () -> of("worlds 1; ring(); wish 0 EGa").due("sign(0, 0, 0)", 'E').due("sign(0, 0, 1)", 1)
            .due("sign(0, 0, 2)", 0).due("sign(0, 0, 3)", 3));
        test(NO_SUCH_WISH, () -> of("wish 0 a; wish 3 a; text a").index("sign(4, 0, 0)", "sign(-1, 0, 0)", "sign(MIN, 0, 0)",
            "sign(MAX, 0, 0)", "sign(4, 0, 4)"));
        test("or it has no such sign (also if there is none at present)", () -> {
            of("wish 0 EXa").index("sign(0, 3, 0)", "sign(0, -1, 0)", "sign(0, MIN, 0)", "sign(0, MAX, 0)", "sign(0, 3, 4)");
            of("wish 0 EXa").index("sign(1, 0, 0)", "sign(3, 0, 3)", "sign(1, -1, 0)", "sign(1, 0, 4)");
            of("wish 0 EUab; wish 0 a").index("sign(0, 1, 0)").then("giveUp(0)").index("sign(0, 0, 0)");
        });
        test(NOT_0_TO_3, () -> of("wish 0 EXa; text a").argument("sign(0, 0, 4)", "sign(0, 2, -1)", "sign(0, 1, 4)",
            "sign(0, 0, MIN)", "sign(0, 0, MAX)"));
    }

    private static void witness() {
        String ring = "worlds 1 0 0 0 0 0 0 0 0 0; ring(); fair(0); wish 0 EGt; wish 3 EXt";
        Sentences.section("Promise 18: witness");
        test("Returns a world of a witness.", () -> of(ring + "; text E").changesNothing("witness(0, 0, 0)")
            .changesNothing("witness(0, 9, 5)").changesNothing("witness(1, 0, 0)"));
        test("- `wish`: 0 to 3", () -> of(ring).due("witness(0, 4, 2)", 6).due("witness(3, 4, 2)", NONE)
            .due("witness(3, 4, 1)", 5).due("witness(1, 4, 0)", NONE));
        test("- `world`: the world in which it begins", () -> of(ring).due("witness(0, 0, 0)", 0).due("witness(0, 9, 0)", 9)
            .due("witness(3, 9, 1)", 0));
        test("- `place`: its place in the witness, from 0", () -> of(ring).due("witness(0, 0, 0)", 0).due("witness(0, 0, 1)", 1)
            .due("witness(0, 0, 9)", 9).due("witness(0, 0, 10)", 0).due("witness(0, 0, 20)", 0));
        test("Returns the world there; NONE if it has not so many", () -> of(ring).due("witness(0, 0, 21)", NONE)
            .due("witness(0, 0, MAX)", NONE).due("witness(0, 1, 19)", 0).due("witness(0, 1, 20)", NONE)
            .due("witness(3, 9, 2)", NONE));
        test("or there is none.", () -> of("worlds 1; wish 0 EXa; wish 1 a; wish 2 AXa").due("witness(0, 0, 0)", NONE)
            .due("witness(1, 0, 0)", NONE).due("witness(2, 0, 0)", NONE).due("witness(3, 0, 0)", NONE)
            .due("witness(3, 0, MAX)", NONE).then("step(0, 0)").due("witness(0, 0, 1)", 0).due("witness(2, 0, 0)", NONE));
        test(NO_SUCH_WISH, () -> of(ring).index("witness(4, 0, 0)", "witness(-1, 0, 0)", "witness(MIN, 0, 0)",
            "witness(MAX, 0, 0)"));
        test("or no such world", () -> {
            of("wish 0 EXa").index("witness(0, 0, 0)", "witness(1, 0, 0)");
            of(ring).index("witness(0, 10, 0)", "witness(0, -1, 0)", "witness(0, MAX, 0)", "witness(1, 10, 0)",
                "witness(0, 10, -1)");
        });
        test("Throws `IllegalArgumentException` if place is below 0", () ->
            of(ring).argument("witness(0, 0, -1)", "witness(0, 0, MIN)", "witness(1, 0, -1)"));
    }

    private static void compare() {
        String wishes = "worlds 1 3 2 0; wish 0 a; wish 1 &ab; wish 2 b; wish 3 d";
        Sentences.section("Promise 19: compare");
        test("Compares two wishes.", () -> of(wishes + "; text E").changesNothing("compare(0, 1)").changesNothing("compare(3, 3)"));
        test("- `one`: 0 to 3", () -> of(wishes).due("compare(0, 0)", 0).due("compare(3, 0)", 1));
        test("- `other`: 0 to 3", () -> of(wishes).due("compare(0, 3)", 2).due("compare(3, 3)", 0));
        test("Returns 0 if they hold in the same worlds", () -> {
            of(wishes + "; wish 1 !!a").due("compare(0, 1)", 0).due("compare(1, 0)", 0).due("compare(2, 2)", 0);
            of(wishes + "; wish 1 !t").due("compare(3, 1)", 0).due("compare(1, 3)", 0);
            of("wish 0 t; wish 1 !t").due("compare(0, 1)", 0).due("compare(1, 0)", 0);
            of(TEN + "; wish 0 t; wish 1 |d!d").due("compare(0, 1)", 0);
        });
        test("1 if the one holds in fewer worlds, all of which are among those of the other (perhaps in none)", () -> {
            of(wishes).due("compare(1, 0)", 1).due("compare(1, 2)", 1).due("compare(3, 0)", 1).due("compare(3, 1)", 1);
            of(TEN + "; wish 0 t; wish 1 !t; wish 2 d").due("compare(1, 0)", 1).due("compare(2, 0)", 1).due("compare(1, 2)", 1);
        });
        test("2 if it is the other way around", () -> {
            of(wishes).due("compare(0, 1)", 2).due("compare(2, 1)", 2).due("compare(0, 3)", 2).due("compare(1, 3)", 2);
            of(TEN + "; wish 0 t; wish 1 !t").due("compare(0, 1)", 2);
        });
        test("3 otherwise", () -> {
            of(wishes).due("compare(0, 2)", 3).due("compare(2, 0)", 3);
            of("worlds 1 2; wish 0 a; wish 1 b").due("compare(0, 1)", 3);
            of("worlds 1 2 2; wish 0 a; wish 1 b").due("compare(0, 1)", 3).due("compare(1, 0)", 3);
        });
        test("NONE if one of them is none at present.", () -> of(wishes + "; giveUp(1); giveUp(3)").due("compare(0, 1)", NONE)
            .due("compare(1, 0)", NONE).due("compare(1, 1)", NONE).due("compare(1, 3)", NONE).due("compare(3, 2)", NONE));
        test(NO_SUCH_WISH, () -> of(wishes).index("compare(4, 0)", "compare(0, 4)", "compare(-1, 0)", "compare(0, -1)",
            "compare(4, 4)", "compare(MIN, 0)", "compare(0, MAX)").then("giveUp(0)").index("compare(0, 4)", "compare(4, 0)"));
    }

    private static void count() {
        Sentences.section("Promise 20: count");
        test("Returns a number.", () -> of("worlds 1; ring(); wish 0 a; text E").changesNothing("count(0)").changesNothing("count(7)"));
        test("0: worlds", () -> {
            of("").due("count(0)", 0);
            of(TEN).due("count(0)", 10);
        });
        test("1: steps", () -> of("").due("count(1)", 0).then("worlds 0 0").due("count(1)", 0).then("steps 00 01 10 11")
            .due("count(1)", 4).then("removeWorld(1)").due("count(1)", 1));
        test("2: live worlds", () -> of("").due("count(2)", 0).then(TEN).due("count(2)", 0).then("ring()").due("count(2)", 10)
            .then("fair(3)").due("count(2)", 10).then("removeWorld(9)").due("count(2)", 0));
        test("3: worlds without a step from them", () -> of("").due("count(3)", 0).then(TEN).due("count(3)", 10)
            .then("steps 99 01").due("count(3)", 8).then("ring()").due("count(3)", 0).then("removeWorld(1)").due("count(3)", 1));
        test("4: the fair letter, NONE without one", () -> of("").due("count(4)", NONE).then("fair(0)").due("count(4)", 0)
            .then("fair(3)").due("count(4)", 3).then("fair(NONE)").due("count(4)", NONE));
        test("5: wishes at present", () -> of("").due("count(5)", 0).then("wish 3 a").due("count(5)", 1)
            .then("wish 0 a; wish 1 a; wish 2 a").due("count(5)", 4).then("wish 0 b").due("count(5)", 4).then("giveUp(3)")
            .due("count(5)", 3));
        test("6: signs of all wishes", () -> {
            String longest = many("!", 39) + "a";
            of("").due("count(6)", 0).then("wish 1 a").due("count(6)", 1).then("negate(1)").due("count(6)", 2);
            of("wish 0 " + longest + "; wish 1 " + longest + "; wish 2 " + longest + "; wish 3 " + longest).due("count(6)", 160)
                .then("giveUp(2)").due("count(6)", 120);
        });
        test("7: worlds in which all wishes at present hold (all worlds without wishes)", () -> {
            of("").due("count(7)", 0).then("wish 0 t").due("count(7)", 0);
            of(TEN).due("count(7)", 10).then("wish 2 d").due("count(7)", 2).then("wish 0 a").due("count(7)", 1)
                .then("wish 3 !t").due("count(7)", 0).then("giveUp(3); giveUp(2)").due("count(7)", 5).then("giveUp(0)")
                .due("count(7)", 10);
        });
        test("8: saved states", () -> {
            of("").due("count(8)", 0).then("ring()").due("count(8)", 1);
            of("worlds 0 0 0 0 0 0").due("count(8)", 6).then("ring()").due("count(8)", 6).then("undo()").due("count(8)", 5);
        });
        test("Returns the number.", () -> of("worlds 1 2; steps 00; fair(0); wish 0 a").due("count(0)", 2).due("count(1)", 1)
            .due("count(2)", 1).due("count(3)", 1).due("count(4)", 0).due("count(5)", 1).due("count(6)", 1).due("count(7)", 1)
            .due("count(8)", 5));
        test("Throws `IllegalArgumentException` if what is not 0 to 8", () ->
            of("worlds 1; text a").argument("count(9)", "count(-1)", "count(MIN)", "count(MAX)"));
    }

    private static void fixes() {
        String two = "worlds 0 0; steps 01 11; wish 0 EXb";
        Sentences.section("Promise 21: fixes");
        test("Tells what single changes would fulfil a wish in a world.", () -> of(two + "; text E").changesNothing("fixes(0, 0, 0)")
            .changesNothing("fixes(0, 1, 1)").changesNothing("fixes(0, 0, 2)").changesNothing("fixes(0, 1, 3)")
            .changesNothing("fixes(1, 0, 2)"));
        test("- `wish`: 0 to 3", () -> {
            for (int wish = 0; wish <= 3; wish++) {
                of("worlds 0; wish 0 a; wish 1 b; wish 2 c; wish 3 d").due("fixes(" + wish + ", 0, 0)", 1)
                    .due("fixes(" + wish + ", 0, 1)", wish);
            }
        });
        test("- `world`: the number of a world", () -> of("worlds 0 0 0 0 0 0 0 0 0 0; wish 0 c").due("fixes(0, 0, 1)", 2)
            .due("fixes(0, 9, 1)", 38));
        test("0: how many of the flips of a letter of a world would", () -> {
            of(two).due("fixes(0, 0, 0)", 1);
            of("worlds 1 0; wish 0 !a; wish 1 |ab; wish 2 &ab").due("fixes(0, 0, 0)", 1).due("fixes(0, 1, 0)", 7)
                .due("fixes(1, 0, 0)", 7).due("fixes(1, 1, 0)", 2).due("fixes(2, 0, 0)", 1).due("fixes(2, 1, 0)", 0);
            of("worlds 0 0; ring(); fair(1); wish 0 EXt").due("fixes(0, 0, 0)", 2).due("fixes(0, 0, 1)", 1);
        });
        test("1: the first one of these, as 4 * the world + the letter, NONE if there is none", () -> {
            of(two).due("fixes(0, 0, 1)", 5).due("fixes(0, 1, 1)", 5);
            of("worlds 1 0; wish 0 !a; wish 1 |ab; wish 2 &ab").due("fixes(0, 0, 1)", 0).due("fixes(0, 1, 1)", 0)
                .due("fixes(1, 0, 1)", 1).due("fixes(1, 1, 1)", 4).due("fixes(2, 0, 1)", 1).due("fixes(2, 1, 1)", NONE);
        });
        test("2: how many of the steps that would be added or taken away would", () -> {
            of(two).due("fixes(0, 0, 2)", 0);
            of("worlds 1 2; steps 01 11; wish 0 EXb; wish 1 EXa; wish 2 AXa").due("fixes(0, 0, 2)", 2).due("fixes(0, 1, 2)", 3)
                .due("fixes(1, 0, 2)", 1).due("fixes(1, 1, 2)", 1).due("fixes(2, 0, 2)", 2).due("fixes(2, 1, 2)", 1);
        });
        test("3: the first one of these, as 10 * from + to, NONE if there is none", () -> {
            of(two).due("fixes(0, 0, 3)", NONE);
            of("worlds 1 2; steps 01 11; wish 0 EXb; wish 1 EXa; wish 2 AXa").due("fixes(0, 0, 3)", 0).due("fixes(0, 1, 3)", 0)
                .due("fixes(1, 0, 3)", 0).due("fixes(1, 1, 3)", 10).due("fixes(2, 0, 3)", 1).due("fixes(2, 1, 3)", 11);
        });
    }

    private static void fixesAtTheEdges() {
        String lonely = "worlds 0 0 0 0 0 0 0 0 0 0; wish 0 d; wish 1 EXt; wish 2 t; wish 3 !t";
        test("4 * the world + the letter", () -> of(lonely).due("fixes(0, 9, 0)", 1).due("fixes(0, 9, 1)", 39)
            .due("fixes(0, 0, 1)", 3).due("fixes(2, 9, 0)", 40).due("fixes(2, 9, 1)", 0));
        test("as 10 * from + to", () -> {
            of(lonely).due("fixes(1, 9, 2)", 1).due("fixes(1, 9, 3)", 99).due("fixes(1, 0, 3)", 0).due("fixes(2, 0, 2)", 100)
                .due("fixes(2, 0, 3)", 0);
            of("worlds 0 0 0; steps 22; wish 0 EXt").due("fixes(0, 1, 3)", 11).due("fixes(0, 1, 2)", 2).due("fixes(0, 2, 2)", 8);
        });
        test("NONE if there is none", () -> of(lonely).due("fixes(3, 0, 0)", 0).due("fixes(3, 0, 1)", NONE)
            .due("fixes(3, 0, 2)", 0).due("fixes(3, 0, 3)", NONE));
        test("all are counted also if it holds there already (those behind which it holds)", () -> {
            of("worlds 1; wish 0 a; wish 1 t").due("fixes(0, 0, 0)", 3).due("fixes(0, 0, 1)", 1).due("fixes(0, 0, 2)", 1)
                .due("fixes(0, 0, 3)", 0).due("fixes(1, 0, 0)", 4).due("fixes(1, 0, 1)", 0);
            of("worlds 1; ring(); wish 0 EXa").due("fixes(0, 0, 0)", 3).due("fixes(0, 0, 2)", 0).due("fixes(0, 0, 3)", NONE);
        });
        test("NONE if there is no such wish at present.", () -> {
            for (int what = 0; what <= 3; what++) {
                of("worlds 1; ring(); wish 1 a; giveUp(1)").due("fixes(0, 0, " + what + ")", NONE)
                    .due("fixes(1, 0, " + what + ")", NONE).due("fixes(3, 0, " + what + ")", NONE);
                of("worlds 1; wish 0 EUaEXb").then("fixes(0, 0, 0); fixes(0, 0, 2)").due("fixes(1, 0, " + what + ")", NONE);
            }
        });
        test(NO_SUCH_WISH, () -> of(lonely).index("fixes(4, 0, 0)", "fixes(-1, 0, 0)", "fixes(MIN, 0, 0)", "fixes(MAX, 0, 0)",
            "fixes(4, 0, 4)"));
        test("or no such world", () -> {
            of("wish 0 a").index("fixes(0, 0, 0)", "fixes(1, 0, 2)", "fixes(0, -1, 0)");
            of(lonely).index("fixes(0, 10, 0)", "fixes(0, -1, 2)", "fixes(0, MIN, 0)", "fixes(0, MAX, 0)", "fixes(0, 10, 4)");
        });
        test(NOT_0_TO_3, () -> of("worlds 1; wish 0 a; text a").argument("fixes(0, 0, 4)", "fixes(0, 0, -1)", "fixes(0, 0, MIN)",
            "fixes(0, 0, MAX)", "fixes(1, 0, 4)", "fixes(1, 0, -1)"));
    }

    private static void ifFair() {
        String three = "worlds 1 2 0; steps 00 01 11; wish 0 AFb; wish 3 EXt";
        Sentences.section("Promise 22: ifFair");
        test("Tells where a wish would hold with another fair letter.", () -> {
            of(three + "; text E").changesNothing("ifFair(0, 0)").changesNothing("ifFair(0, NONE)").changesNothing("ifFair(1, 3)");
            of(three).due("ifFair(0, 1)", 7).due("wish(0, 1)", 6).due("count(4)", NONE).due("ifFair(0, NONE)", 6);
        });
        test("- `wish`: 0 to 3", () -> of(three).due("ifFair(0, 0)", 6).due("ifFair(3, 0)", 1).due("ifFair(3, 1)", 3));
        test("- `letter`: 0 to 3, or NONE", () -> {
            of(three).due("ifFair(3, NONE)", 3).due("ifFair(3, 0)", 1).due("ifFair(3, 1)", 3).due("ifFair(3, 2)", 0)
                .due("ifFair(3, 3)", 0);
            of(three + "; fair(2)").due("ifFair(3, NONE)", 3).due("ifFair(3, 0)", 1).due("ifFair(3, 2)", 0);
        });
        test("Returns the worlds in which it would hold, as a mask", () -> {
            of("wish 0 t").due("ifFair(0, 0)", 0).due("ifFair(0, NONE)", 0);
            of(TEN + "; wish 0 AX!t; wish 1 EXt").due("ifFair(0, 3)", 1023).due("ifFair(1, 3)", 0).then("ring()")
                .due("ifFair(0, 3)", 0).due("ifFair(1, 3)", 1023).due("ifFair(1, NONE)", 1023);
        });
        test("NONE if there is no such wish at present.", () -> of("worlds 1; ring(); wish 1 t; giveUp(1)").due("ifFair(0, 0)", NONE)
            .due("ifFair(1, NONE)", NONE).due("ifFair(3, 3)", NONE));
        test(NO_SUCH_WISH, () -> of(three).index("ifFair(4, 0)", "ifFair(-1, NONE)", "ifFair(MIN, 0)", "ifFair(MAX, 0)",
            "ifFair(4, 4)"));
        test("Throws `IllegalArgumentException` if letter is out of range", () ->
            of(three).argument("ifFair(0, 4)", "ifFair(0, -2)", "ifFair(0, MIN)", "ifFair(0, MAX)", "ifFair(1, 4)", "ifFair(1, -2)"));
    }

    private static void fulfilled() {
        Sentences.section("Promise 23: fulfilled");
        test("Returns how well wishes are fulfilled.", () -> of("worlds 1 2; ring(); wish 0 EGa; text E").changesNothing("fulfilled()"));
        test("Returns the number of pairs of a world and a wish at present that holds there, as a double, divided by that of all such pairs",
            () -> {
                of("worlds 1 3 2; wish 1 a").due("fulfilled()", 2.0 / 3.0).then("wish 3 &ab").due("fulfilled()", 0.5)
                    .then("wish 0 c").due("fulfilled()", 3.0 / 9.0).then("wish 2 t").due("fulfilled()", 6.0 / 12.0)
                    .then("giveUp(3)").due("fulfilled()", 5.0 / 9.0);
                of(TEN + "; wish 0 t; wish 1 t; wish 2 t; wish 3 t").due("fulfilled()", 1.0).then("wish 3 &da")
                    .due("fulfilled()", 31.0 / 40.0).then("wish 0 !t; wish 1 !t; wish 2 !t").due("fulfilled()", 1.0 / 40.0)
                    .then("wish 3 !t").due("fulfilled()", 0.0);
            });
        test("1.0 if there are none.", () -> {
            of("").due("fulfilled()", 1.0);
            of("wish 0 !t").due("fulfilled()", 1.0);
            of("worlds 1").due("fulfilled()", 1.0);
            of("worlds 1; wish 0 !t").due("fulfilled()", 0.0).then("giveUp(0)").due("fulfilled()", 1.0);
            of("worlds 1; wish 0 !t; removeWorld(0)").due("fulfilled()", 1.0);
        });
    }

    /** The hash by the document's list, out of the other calls, each few of which are asked aside. */
    private static BigInteger listed(Run run, String buffer) {
        BigInteger hash = BigInteger.valueOf(2621);
        int worlds = Integer.parseInt(run.again().ask("count(0)"));
        for (int what = 0; what <= 8; what++) {
            hash = mixed(hash, run.again().ask("count(" + what + ")"));
        }
        for (int k = 0; k < 5 * worlds; k++) {
            hash = mixed(hash, run.again().ask("world(" + k / 5 + ", " + k % 5 + ")"));
        }
        for (int wish = 0; wish < 4; wish++) {
            hash = listedWish(hash, run, wish, worlds);
        }
        double share = Double.parseDouble(run.again().ask("fulfilled()"));
        hash = mixed(hash, Long.toString(Double.doubleToLongBits(share)));
        hash = mixed(hash, Integer.toString(buffer.length()));
        for (int k = 0; k < buffer.length(); k++) {
            hash = mixed(hash, Integer.toString(buffer.charAt(k)));
        }
        return hash;
    }

    private static BigInteger listedWish(BigInteger start, Run run, int wish, int worlds) {
        BigInteger hash = start;
        int signs = Math.max(0, Integer.parseInt(run.again().ask("wish(" + wish + ", 0)")));
        for (int what = 0; what <= 3; what++) {
            hash = mixed(hash, run.again().ask("wish(" + wish + ", " + what + ")"));
        }
        for (int k = 0; k < 4 * signs; k++) {
            hash = mixed(hash, run.again().ask("sign(" + wish + ", " + k / 4 + ", " + k % 4 + ")"));
        }
        for (int k = 0; k < 4 * worlds; k++) {
            hash = mixed(hash, run.again().ask("witness(" + wish + ", " + k / 4 + ", " + k % 4 + ")"));
        }
        hash = mixed(hash, run.again().ask("compare(" + wish + ", 0)"));
        hash = mixed(hash, run.again().ask("ifFair(" + wish + ", NONE)"));
        hash = mixed(hash, run.again().ask("ifFair(" + wish + ", 0)"));
        for (int what = 0; worlds > 0 && what <= 3; what++) {
            hash = mixed(hash, run.again().ask("fixes(" + wish + ", 0, " + what + ")"));
        }
        return hash;
    }

    private static BigInteger mixed(BigInteger hash, String value) {
        return hash.multiply(BigInteger.valueOf(31)).add(new BigInteger(value));
    }

    private static void hashed(String row, String buffer) {
        Run run = of(row).then(buffer.isEmpty() ? "" : "text " + buffer);
        run.again().due("digest()", listed(run, buffer).longValue());
    }

    private static void digest() {
        String much = TEN + "; ring(); steps 37 52 99; wish 0 AUaEGb; wish 1 EU!ab; wish 3 !AX|cEFd; fair(2)";
        Sentences.section("Promise 24: digest");
        test("Computes a hash of the whole state.", () -> {
            of(much + "; text E").changesNothing("digest()");
            hashed(much, "EX");
        });
        test("The hash starts at 2621.", () -> {
            // a new object: nine counts, seven values of each wish that is none, the bits of 1.0, no buffer
            long hash = 2621;
            for (int k = 0; k < 9 + 28; k++) {
                hash = 31 * hash + (k == 4 || k >= 9 ? NONE : 0);
            }
            hash = 31 * (31 * hash + 0x3FF0000000000000L);
            of("").due("digest()", hash);
            hashed("", "");
        });
        test("the hash becomes 31 * hash + v, in long arithmetic with overflow.", () -> {
            Run run = of(much);
            BigInteger hash = listed(run, "");
            Sentences.due("" + run, "the hash without overflow has more than 63 bits", "true", "" + (hash.bitLength() > 63));
            run.again().due("digest()", hash.longValue());
        });
        test("count(0) to count(8)", () -> {
            hashed("worlds 1", "");
            hashed("worlds 1; undo()", "");
            hashed("fair(3); ring(); ring(); ring(); ring(); ring(); ring()", "");
        });
        test("for each world its properties 0 to 4", () -> {
            hashed("worlds 15 0 1; steps 00 21 12; wish 3 a", "");
            hashed(TEN, "");
        });
        test("for each of the 4 wishes (also if there is none at present) its properties 0 to 3", () -> {
            hashed("worlds 1 2; ring(); wish 1 EXa", "");
            hashed("worlds 1 2; ring(); wish 0 EXa; wish 3 AUab; giveUp(0)", "");
        });
        test("for each of its signs the properties 0 to 3", () -> {
            hashed("worlds 1 2; ring(); wish 2 " + many("EUa", 9) + many("!", 12) + "b", "");
            hashed("worlds 1 2; ring(); wish 0 t; wish 1 t; wish 2 t; wish 3 t", "");
        });
        test("for each world the places 0 to 3 of its witness there", () -> {
            hashed("worlds 1 1 1 1 2; steps 01 12 23 34 44; wish 0 EFb; wish 1 EGt; wish 2 AGa; wish 3 b", "");
            hashed("worlds 1 1 1 1 2; ring(); wish 1 EGt; wish 2 AFt", "");
        });
        test("compare(its number, 0)", () -> {
            hashed("worlds 1 3 2; wish 0 a; wish 1 &ab; wish 2 b; wish 3 t", "");
            hashed("worlds 1 3 2; wish 1 &ab; wish 2 b; wish 3 t", "");
        });
        test("ifFair of NONE and of 0", () -> {
            hashed("worlds 1 2 0; steps 00 01 11; wish 0 AFb; wish 2 EGt; fair(1)", "");
            hashed("worlds 1 2 0; steps 00 01 11; wish 0 AFb; wish 2 EGt; fair(0)", "");
        });
        test("and, if there are worlds, fixes in the world 0 with 0 to 3", () -> {
            hashed("wish 0 a; wish 1 EXt", "");
            hashed("worlds 0; wish 0 a; wish 1 EXt", "");
            hashed(TEN + "; wish 0 &bd; wish 1 EX&bd", "");
        });
        test("the bits of fulfilled (as Double.doubleToLongBits)", () -> {
            for (int of = 1; of <= 10; of++) {
                for (int holding = 0; holding <= of; holding++) {
                    String worlds = "worlds" + many(" 3", holding) + many(" 0", of - holding);
                    hashed(worlds + "; wish 0 a", "");
                    hashed(worlds + "; wish 0 a; wish 1 &ab; wish 2 c", "");
                    hashed(worlds + "; wish 0 c; wish 1 a; wish 2 c; wish 3 d", "");
                }
            }
        });
        test("the length of the buffer and each of its character codes.", () -> {
            hashed("", "a");
            hashed("append(33); append(126); clearBuffer()", "!~");
            hashed("worlds 1", many("~", 60));
            hashed("text ab; clearBuffer()", "");
            hashed("text a; read(0)", "");
        });
        test("Returns the hash.", () -> {
            of(much).same("digest()", of(much)).same("digest()", of(much + "; digest(); digest()"));
            // what came and went leaves nothing behind
            of("worlds 1; undo()").same("digest()", of(""));
            of("text EX; clearBuffer()").same("digest()", of(""));
        });
    }

    private static void notPromised() {
        Sentences.section("Not promised");
        Sentences.plain("How the state is held inside the object is free");
        Sentences.plain("Use of one object from several threads");
        Sentences.plain("Nothing is promised beyond the answers and state changes described above");
    }
}
