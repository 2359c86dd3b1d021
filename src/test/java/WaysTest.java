import java.util.Random;

/**
 * Where wishes hold, held against ways themselves: a third reading of "Worlds,
 * ways" and "Wishes" that knows of no sets and no rounds. A way is told here by
 * a row of worlds whose last one has a step back to one of them; where a wish
 * of the document holds on some way, or fails on some way, it does so on such
 * a one with at most 3 n - 2 worlds (to v, to a fair world, and around to it).
 */
public final class WaysTest {
    private static final String[] ENDS = {"Xa", "Fa", "Ga", "Uab"};
    private static final int FAIR = 2;

    /** So many times each graph of three worlds gets letters; the smaller ones get all that there are. */
    private static final int LETTERINGS = 24;
    private static final int LARGER_GRAPHS = 600;

    private static int checked = 0;
    private static int wrong = 0;

    private final int worlds;
    private final int[] steps;
    private final int[] letters;
    private final boolean onlyFair;
    private final int[] row;

    /** Of each end of a wish: whether the ways from a world that count were found to hold it, or to fail it. */
    private final boolean[] held = new boolean[ENDS.length];
    private final boolean[] failed = new boolean[ENDS.length];
    private boolean live = false;

    private WaysTest(int[] steps, int[] letters, boolean onlyFair) {
        this.worlds = steps.length;
        this.steps = steps;
        this.letters = letters;
        this.onlyFair = onlyFair;
        this.row = new int[3 * worlds - 2];
    }

    public static void main(String[] args) {
        Random random = new Random(15485863);
        for (int worlds = 1; worlds <= 3; worlds++) {
            for (int graph = 0; graph < 1 << worlds * worlds; graph++) {
                int all = 1 << 3 * worlds;
                for (int k = 0; k < (worlds < 3 ? all : LETTERINGS); k++) {
                    look(worlds, graph, worlds < 3 ? k : random.nextInt(all));
                }
            }
        }
        for (int k = 0; k < LARGER_GRAPHS; k++) {
            look(4, random.nextInt(1 << 16) & random.nextInt(1 << 16) | 1 << random.nextInt(16), random.nextInt(1 << 12));
        }
        System.out.println("WaysTest: " + checked + " answers, " + wrong + " wrong");
        if (wrong != 0) {
            System.exit(1);
        }
    }

    /** A graph as the bits of its steps, and the letters "a" to "c" of its worlds likewise. */
    private static void look(int worlds, int graph, int lettering) {
        int[] steps = new int[worlds];
        int[] letters = new int[worlds];
        FutureWishes x = new FutureWishes();
        for (int world = 0; world < worlds; world++) {
            steps[world] = graph >> world * worlds & (1 << worlds) - 1;
            letters[world] = lettering >> 3 * world & 7;
            x.addWorld(letters[world]);
        }
        for (int pair = 0; pair < worlds * worlds; pair++) {
            if ((graph >> pair & 1) == 1) {
                x.step(pair / worlds, pair % worlds);
            }
        }
        for (int fair = FutureWishes.NONE; fair <= FAIR; fair += FAIR - FutureWishes.NONE) {
            x.fair(fair);
            hold(x, steps, letters, fair);
        }
    }

    private static void hold(FutureWishes x, int[] steps, int[] letters, int fair) {
        int live = 0;
        int[] some = new int[ENDS.length];
        int[] all = new int[ENDS.length];
        for (int world = 0; world < steps.length; world++) {
            WaysTest ways = new WaysTest(steps, letters, fair == FAIR);
            ways.go(0, world);
            live |= ways.live ? 1 << world : 0;
            for (int end = 0; end < ENDS.length; end++) {
                some[end] |= ways.held[end] ? 1 << world : 0;
                all[end] |= ways.failed[end] ? 0 : 1 << world;
            }
            due(x, "world(" + world + ", 3)", x.world(world, 3), live >> world & 1);
        }
        for (int end = 0; end < ENDS.length; end++) {
            due(x, "E" + ENDS[end], holding(x, "E" + ENDS[end]), some[end]);
            due(x, "A" + ENDS[end], holding(x, "A" + ENDS[end]), all[end]);
        }
    }

    private static int holding(FutureWishes x, String text) {
        for (char sign : text.toCharArray()) {
            x.append(sign);
        }
        x.read(0);
        return x.wish(0, 1);
    }

    private static void due(FutureWishes x, String what, int got, int want) {
        checked++;
        if (got != want) {
            wrong++;
            StringBuilder told = new StringBuilder("fair " + x.count(4) + ", worlds (letters/steps)");
            for (int world = 0; world < x.count(0); world++) {
                told.append(' ').append(x.world(world, 0)).append('/').append(x.world(world, 1));
            }
            System.out.println(told + ": " + what + " holds in the mask " + got + ", by the ways in " + want);
        }
    }

    /** Goes all rows from a place on, and looks at each way that a step back makes of them. */
    private void go(int place, int world) {
        row[place] = world;
        for (int back = 0; back <= place; back++) {
            if ((steps[world] >> row[back] & 1) == 1 && counts(back, place)) {
                live = true;
                note(back, place);
            }
        }
        for (int next = 0; next < worlds && place + 1 < row.length; next++) {
            if ((steps[world] >> next & 1) == 1) {
                go(place + 1, next);
            }
        }
    }

    /** Whether worlds with the fair letter come without end: one stands in what comes around. */
    private boolean counts(int back, int last) {
        boolean found = !onlyFair;
        for (int place = back; place <= last; place++) {
            found |= has(place, FAIR);
        }
        return found;
    }

    private boolean has(int place, int letter) {
        return (letters[row[place]] >> letter & 1) == 1;
    }

    private void note(int back, int last) {
        boolean ever = false;
        boolean always = true;
        boolean until = false;
        boolean ahead = true;
        for (int place = 0; place <= last; place++) {
            ever |= has(place, 0);
            always &= has(place, 0);
            until |= ahead && has(place, 1);
            ahead &= has(place, 0);
        }
        boolean[] holds = {has(last == 0 ? 0 : 1, 0), ever, always, until};
        for (int end = 0; end < ENDS.length; end++) {
            held[end] |= holds[end];
            failed[end] |= !holds[end];
        }
    }
}
