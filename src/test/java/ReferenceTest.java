import java.util.ArrayList;
import java.util.HashMap;
import java.util.List;
import java.util.Map;
import java.util.Random;

/**
 * Long runs of calls, each answer held against a slow second reading of the
 * document: texts read by recursive descent, sets found by reachability and
 * not in rounds, witnesses found by trying all rows in order.
 */
public final class ReferenceTest {
    private static final int RUNS = 400;

    /** So many calls are made on one object; the last of them is a digest. */
    private static final int CALLS = 512;

    /** No witness is so long. */
    private static final int PLACES = 120;
    private static int wrong = 0;
    private static long checked = 0;

    public static void main(String[] args) {
        for (int run = 0; run < RUNS && wrong < 20; run++) {
            play(run);
        }
        System.out.println("ReferenceTest: " + checked + " answers, " + wrong + " wrong");
        if (wrong != 0) {
            System.exit(1);
        }
    }

    private interface Call {
        Object on(FutureWishes real, Model model, boolean useReal);
    }

    private static void due(int run, int k, String call, Object got, Object want) {
        checked++;
        if (!got.equals(want)) {
            wrong++;
            System.out.println("run " + run + " call " + k + ": " + call + " answered " + got + ", due is " + want);
        }
    }

    private static Object answer(FutureWishes real, Model model, boolean useReal, Call call) {
        try {
            return call.on(real, model, useReal);
        } catch (RuntimeException e) {
            return "throws." + e.getClass().getSimpleName();
        }
    }

    private static void play(int run) {
        Random random = new Random(7919L * run + 5);
        FutureWishes real = new FutureWishes();
        Model model = new Model();
        String typed = "";
        for (int k = 0; k < CALLS - 1; k++) {
            int kind = random.nextInt(100);
            if (k < 12 && random.nextInt(10) > 0) {
                kind = random.nextInt(3) == 0 ? 14 : random.nextInt(10);
            }
            String name;
            Call call;
            int a = number(random, Math.max(1, model.letters.size()));
            int b = number(random, Math.max(1, model.letters.size()));
            int w = number(random, 4);
            int l = number(random, 4);
            if (!typed.isEmpty()) {
                int code = typed.charAt(0);
                typed = typed.substring(1);
                name = "append(" + code + ")";
                call = (r, m, u) -> u ? r.append(code) : m.append(code);
            } else if (kind < 8) {
                int mask = random.nextInt(30) == 0 ? odd(random) : random.nextInt(16);
                name = "addWorld(" + mask + ")";
                call = (r, m, u) -> u ? r.addWorld(mask) : m.addWorld(mask);
            } else if (kind < 9) {
                name = "removeWorld(" + a + ")";
                call = (r, m, u) -> u ? r.removeWorld(a) : m.removeWorld(a);
            } else if (kind < 25) {
                name = "step(" + a + "," + b + ")";
                call = (r, m, u) -> u ? r.step(a, b) : m.step(a, b);
            } else if (kind < 28) {
                name = "flip(" + a + "," + l + ")";
                call = (r, m, u) -> u ? r.flip(a, l) : m.flip(a, l);
            } else if (kind < 31) {
                int f = random.nextInt(20) == 0 ? odd(random) : random.nextInt(5) - 1;
                name = "fair(" + f + ")";
                call = (r, m, u) -> u ? r.fair(f) : m.fair(f);
            } else if (kind < 33) {
                name = "ring()";
                call = (r, m, u) -> u ? r.ring() : m.ring();
            } else if (kind < 38) {
                typed = text(random);
                name = "clearBuffer()";
                call = (r, m, u) -> u ? r.clearBuffer() : m.clearBuffer();
            } else if (kind < 42) {
                name = "firstError()";
                call = (r, m, u) -> u ? r.firstError() : m.firstError();
            } else if (kind < 52) {
                name = "read(" + w + ")";
                call = (r, m, u) -> u ? r.read(w) : m.read(w);
            } else if (kind < 55) {
                name = "negate(" + w + ")";
                call = (r, m, u) -> u ? r.negate(w) : m.negate(w);
            } else if (kind < 56) {
                name = "giveUp(" + w + ")";
                call = (r, m, u) -> u ? r.giveUp(w) : m.giveUp(w);
            } else if (kind < 58) {
                name = "undo()";
                call = (r, m, u) -> u ? r.undo() : m.undo();
            } else if (kind < 63) {
                int what = number(random, 5);
                name = "world(" + a + "," + what + ")";
                call = (r, m, u) -> u ? r.world(a, what) : m.world(a, what);
            } else if (kind < 68) {
                name = "wish(" + w + "," + l + ")";
                call = (r, m, u) -> u ? r.wish(w, l) : m.wish(w, l);
            } else if (kind < 74) {
                int s = number(random, 12);
                name = "sign(" + w + "," + s + "," + l + ")";
                call = (r, m, u) -> u ? r.sign(w, s, l) : m.sign(w, s, l);
            } else if (kind < 82) {
                int place = random.nextInt(40) == 0 ? odd(random) : random.nextInt(14) - random.nextInt(2);
                name = "witness(" + w + "," + a + "," + place + ")";
                call = (r, m, u) -> u ? r.witness(w, a, place) : m.witness(w, a, place);
            } else if (kind < 85) {
                name = "compare(" + w + "," + l + ")";
                call = (r, m, u) -> u ? r.compare(w, l) : m.compare(w, l);
            } else if (kind < 88) {
                int what = number(random, 9);
                name = "count(" + what + ")";
                call = (r, m, u) -> u ? r.count(what) : m.count(what);
            } else if (kind < 93) {
                name = "fixes(" + w + "," + a + "," + l + ")";
                call = (r, m, u) -> u ? r.fixes(w, a, l) : m.fixes(w, a, l);
            } else if (kind < 95) {
                int f = random.nextInt(20) == 0 ? odd(random) : random.nextInt(5) - 1;
                name = "ifFair(" + w + "," + f + ")";
                call = (r, m, u) -> u ? r.ifFair(w, f) : m.ifFair(w, f);
            } else if (kind < 97) {
                name = "fulfilled()";
                call = (r, m, u) -> u ? (Object) r.fulfilled() : (Object) m.fulfilled();
            } else if (kind < 98 && random.nextInt(3) == 0) {
                name = "digest()";
                call = (r, m, u) -> u ? (Object) r.digest() : (Object) m.digest();
            } else {
                int code = random.nextInt(8) == 0 ? odd(random) : 33 + random.nextInt(94);
                name = "append(" + code + ")";
                call = (r, m, u) -> u ? r.append(code) : m.append(code);
            }
            due(run, k, name, answer(real, null, true, call), answer(null, model, false, call));
        }
        due(run, CALLS, "digest()", real.digest(), model.digest());
        for (int wish = 0; wish < 4; wish++) {
            for (int world = 0; world < model.letters.size(); world++) {
                walk(run, model, wish, world);
            }
        }
    }

    /** A whole witness, asked of an object that is made for it, since the first one's calls are at their end. */
    private static void walk(int run, Model model, int wish, int world) {
        FutureWishes x = like(model, wish);
        for (int place = 0; place < PLACES; place++) {
            due(run, CALLS, "witness(" + wish + "," + world + "," + place + ")",
                x.witness(wish, world, place), model.witness(wish, world, place));
        }
    }

    private static FutureWishes like(Model model, int wish) {
        FutureWishes x = new FutureWishes();
        for (int letters : model.letters) {
            x.addWorld(letters);
        }
        for (int from = 0; from < model.size(); from++) {
            for (int to = 0; to < model.size(); to++) {
                if (model.edge[from][to]) {
                    x.step(from, to);
                }
            }
        }
        x.fair(model.fairLetter);
        if (model.wishes[wish] != null) {
            for (char sign : model.wishes[wish].toCharArray()) {
                x.append(sign);
            }
            x.read(wish);
        }
        return x;
    }

    private static int number(Random random, int below) {
        return random.nextInt(30) == 0 ? odd(random) : random.nextInt(below);
    }

    private static int odd(Random random) {
        int[] odd = {-1, -2, 4, 5, 9, 10, 11, 16, 32, 127, 40, 41, Integer.MAX_VALUE, Integer.MIN_VALUE};
        return odd[random.nextInt(odd.length)];
    }

    private static String text(Random random) {
        int budget = random.nextInt(4) == 0 ? 34 + random.nextInt(10) : 2 + random.nextInt(18);
        StringBuilder text = new StringBuilder();
        grow(random, text, budget);
        if (random.nextInt(8) == 0) {
            String signs = "abcdt!&|EAXFGUx~";
            text.insert(random.nextInt(text.length() + 1), signs.charAt(random.nextInt(signs.length())));
        }
        return text.toString();
    }

    /** Puts a random wish of about so many signs behind a text. */
    private static void grow(Random random, StringBuilder text, int budget) {
        if (budget <= 1) {
            text.append("abcdt".charAt(random.nextInt(random.nextInt(4) == 0 ? 5 : 4)));
        } else if (budget == 2 || random.nextInt(7) == 0) {
            text.append('!');
            grow(random, text, budget - 1);
        } else if (random.nextInt(4) == 0) {
            text.append(random.nextBoolean() ? '&' : '|');
            int first = 1 + random.nextInt(budget - 2);
            grow(random, text, first);
            grow(random, text, budget - 1 - first);
        } else {
            text.append(random.nextBoolean() ? 'E' : 'A');
            if (budget >= 4 && random.nextInt(3) == 0) {
                text.append('U');
                int first = 1 + random.nextInt(budget - 3);
                grow(random, text, first);
                grow(random, text, budget - 2 - first);
            } else {
                text.append("XFG".charAt(random.nextInt(3)));
                grow(random, text, budget - 2);
            }
        }
    }

    /** The second reading of the document. */
    private static final class Model {
        List<Integer> letters = new ArrayList<>();
        boolean[][] edge = new boolean[10][10];
        int fairLetter = -1;
        String[] wishes = new String[4];
        StringBuilder buffer = new StringBuilder();
        List<Model> saved = new ArrayList<>();
        private final Map<String, boolean[]> known = new HashMap<>();

        Model copy() {
            Model copy = new Model();
            copy.take(this);
            return copy;
        }

        void take(Model other) {
            letters = new ArrayList<>(other.letters);
            for (int k = 0; k < 10; k++) {
                edge[k] = other.edge[k].clone();
            }
            fairLetter = other.fairLetter;
            wishes = other.wishes.clone();
            known.clear();
        }

        void save() {
            saved.add(copy());
            if (saved.size() > 6) {
                saved.remove(0);
            }
            known.clear();
        }

        int size() {
            return letters.size();
        }

        void needWorld(int world) {
            if (world < 0 || world >= size()) {
                throw new IndexOutOfBoundsException();
            }
        }

        void needWish(int wish) {
            if (wish < 0 || wish > 3) {
                throw new IndexOutOfBoundsException();
            }
        }

        void need(boolean right) {
            if (!right) {
                throw new IllegalArgumentException();
            }
        }

        int addWorld(int mask) {
            need(mask >= 0 && mask < 16);
            if (size() == 10) {
                throw new IllegalStateException();
            }
            save();
            letters.add(mask);
            return size() - 1;
        }

        int removeWorld(int world) {
            needWorld(world);
            save();
            boolean[][] old = edge;
            edge = new boolean[10][10];
            for (int from = 0; from < size(); from++) {
                for (int to = 0; to < size(); to++) {
                    if (from != world && to != world && old[from][to]) {
                        edge[from > world ? from - 1 : from][to > world ? to - 1 : to] = true;
                    }
                }
            }
            letters.remove(world);
            return size();
        }

        int step(int from, int to) {
            needWorld(from);
            needWorld(to);
            save();
            edge[from][to] = !edge[from][to];
            return edge[from][to] ? 1 : 0;
        }

        int flip(int world, int letter) {
            needWorld(world);
            need(letter >= 0 && letter <= 3);
            save();
            letters.set(world, letters.get(world) ^ (1 << letter));
            return letters.get(world);
        }

        int fair(int letter) {
            need(letter >= -1 && letter <= 3);
            save();
            int old = fairLetter;
            fairLetter = letter;
            return old;
        }

        int ring() {
            save();
            for (int k = 0; k < size(); k++) {
                edge[k][(k + 1) % size()] = true;
            }
            return count(1);
        }

        int append(int code) {
            need(code >= 33 && code <= 126);
            if (buffer.length() == 60) {
                throw new IllegalStateException();
            }
            buffer.append((char) code);
            return buffer.length();
        }

        int clearBuffer() {
            int old = buffer.length();
            buffer.setLength(0);
            return old;
        }

        int firstError() {
            for (int k = 1; k <= buffer.length(); k++) {
                if (!begins(buffer.substring(0, k))) {
                    return k - 1;
                }
            }
            return buffer.length();
        }

        /** Whether some wish of at most 40 signs begins so: the shortest such one is built. */
        static boolean begins(String text) {
            StringBuilder whole = new StringBuilder(text);
            int end = complete(whole, 0);
            return end == whole.length() && end >= text.length() && whole.length() <= 40;
        }

        /** Adds what a wish from a place on lacks at the end; its end, or -1. */
        static int complete(StringBuilder text, int at) {
            if (at < 0) {
                return -1;
            }
            if (at == text.length()) {
                text.append('a');
            }
            char sign = text.charAt(at);
            if ("abcdt".indexOf(sign) >= 0) {
                return at + 1;
            }
            if (sign == '!') {
                return complete(text, at + 1);
            }
            if (sign == '&' || sign == '|') {
                return complete(text, complete(text, at + 1));
            }
            if (sign == 'E' || sign == 'A') {
                if (at + 1 == text.length()) {
                    text.append('X');
                }
                char second = text.charAt(at + 1);
                if (second == 'U') {
                    return complete(text, complete(text, at + 2));
                }
                return "XFG".indexOf(second) >= 0 ? complete(text, at + 2) : -1;
            }
            return -1;
        }

        int read(int wish) {
            needWish(wish);
            String text = buffer.toString();
            StringBuilder whole = new StringBuilder(text);
            need(!text.isEmpty() && text.length() <= 40);
            need(complete(whole, 0) == text.length() && whole.length() == text.length());
            save();
            wishes[wish] = text;
            buffer.setLength(0);
            return text.length();
        }

        int negate(int wish) {
            needWish(wish);
            if (wishes[wish] == null || wishes[wish].length() == 40 && wishes[wish].charAt(0) != '!') {
                throw new IllegalStateException();
            }
            save();
            String text = wishes[wish];
            wishes[wish] = text.charAt(0) == '!' ? text.substring(1) : "!" + text;
            return wishes[wish].length();
        }

        int giveUp(int wish) {
            needWish(wish);
            save();
            int old = wishes[wish] == null ? 0 : wishes[wish].length();
            wishes[wish] = null;
            return old;
        }

        int undo() {
            if (saved.isEmpty()) {
                throw new IllegalStateException();
            }
            take(saved.remove(saved.size() - 1));
            return saved.size();
        }

        // sets, by reachability

        boolean[] all() {
            boolean[] set = new boolean[size()];
            java.util.Arrays.fill(set, true);
            return set;
        }

        boolean isGoal(int world) {
            return fairLetter < 0 || (letters.get(world) >> fairLetter & 1) == 1;
        }

        boolean[][] closure(boolean[] inside) {
            int n = size();
            boolean[][] path = new boolean[n][n];
            for (int i = 0; i < n; i++) {
                for (int j = 0; j < n; j++) {
                    path[i][j] = inside[i] && inside[j] && edge[i][j];
                }
            }
            for (int k = 0; k < n; k++) {
                for (int i = 0; i < n; i++) {
                    for (int j = 0; j < n; j++) {
                        path[i][j] |= path[i][k] && path[k][j];
                    }
                }
            }
            return path;
        }

        /** The worlds from which a way that counts stays inside: a row to a goal that comes back to itself. */
        boolean[] staying(boolean[] inside) {
            boolean[][] path = closure(inside);
            boolean[] set = new boolean[size()];
            for (int i = 0; i < size(); i++) {
                for (int g = 0; g < size(); g++) {
                    set[i] |= inside[i] && isGoal(g) && path[g][g] && (i == g || path[i][g]);
                }
            }
            return set;
        }

        boolean[] live() {
            return staying(all());
        }

        boolean[] reaching(boolean[] through, boolean[] goal) {
            boolean[] live = live();
            boolean[][] path = closure(through);
            boolean[] set = new boolean[size()];
            for (int i = 0; i < size(); i++) {
                for (int g = 0; g < size(); g++) {
                    if (goal[g] && live[g]) {
                        set[i] |= i == g || through[i] && edge[i][g];
                        for (int k = 0; k < size(); k++) {
                            set[i] |= path[i][k] && edge[k][g];
                        }
                    }
                }
            }
            return set;
        }

        static boolean[] not(boolean[] set) {
            boolean[] other = new boolean[set.length];
            for (int k = 0; k < set.length; k++) {
                other[k] = !set[k];
            }
            return other;
        }

        static boolean[] and(boolean[] one, boolean[] two) {
            boolean[] both = new boolean[one.length];
            for (int k = 0; k < one.length; k++) {
                both[k] = one[k] && two[k];
            }
            return both;
        }

        boolean[] holds(String part) {
            boolean[] set = known.get(part);
            if (set == null) {
                set = work(part);
                known.put(part, set);
            }
            return set;
        }

        static String first(String parts) {
            return parts.substring(0, complete(new StringBuilder(parts), 0));
        }

        boolean[] work(String part) {
            char sign = part.charAt(0);
            if (sign == 't') {
                return all();
            }
            if (sign >= 'a' && sign <= 'd') {
                boolean[] set = new boolean[size()];
                for (int k = 0; k < size(); k++) {
                    set[k] = (letters.get(k) >> (sign - 'a') & 1) == 1;
                }
                return set;
            }
            if (sign == '!') {
                return not(holds(part.substring(1)));
            }
            if (sign == '&' || sign == '|') {
                String one = first(part.substring(1));
                boolean[] left = holds(one);
                boolean[] right = holds(part.substring(1 + one.length()));
                return sign == '&' ? and(left, right) : not(and(not(left), not(right)));
            }
            String one = first(part.substring(2));
            boolean[] w = holds(one);
            boolean[] v = part.charAt(1) == 'U' ? holds(part.substring(2 + one.length())) : null;
            if (sign == 'E') {
                return someWay(part.charAt(1), w, v);
            }
            boolean[] against = part.charAt(1) == 'X' ? someWay('X', not(w), null)
                : part.charAt(1) == 'F' ? someWay('G', not(w), null)
                : part.charAt(1) == 'G' ? someWay('F', not(w), null)
                : not(and(not(someWay('U', not(v), and(not(v), not(w)))), not(someWay('G', not(v), null))));
            return not(against);
        }

        boolean[] someWay(char how, boolean[] w, boolean[] v) {
            if (how == 'X') {
                boolean[] live = live();
                boolean[] set = new boolean[size()];
                for (int i = 0; i < size(); i++) {
                    for (int j = 0; j < size(); j++) {
                        set[i] |= edge[i][j] && live[j] && w[j];
                    }
                }
                return set;
            }
            return how == 'G' ? staying(w) : how == 'F' ? reaching(all(), w) : reaching(w, v);
        }

        // rounds, by the words of the document

        int untilRounds(boolean[] w, boolean[] v) {
            boolean[] set = and(live(), v);
            for (int rounds = 0; ; rounds++) {
                boolean[] next = set.clone();
                for (int i = 0; i < size(); i++) {
                    for (int j = 0; j < size(); j++) {
                        next[i] |= w[i] && edge[i][j] && set[j];
                    }
                }
                if (java.util.Arrays.equals(set, next)) {
                    return rounds;
                }
                set = next;
            }
        }

        int alwaysRounds(boolean[] w) {
            boolean[] set = w.clone();
            for (int rounds = 0; ; rounds++) {
                boolean[][] path = closure(set);
                boolean[] next = new boolean[size()];
                for (int i = 0; i < size(); i++) {
                    for (int g = 0; g < size(); g++) {
                        next[i] |= path[i][g] && isGoal(g);
                    }
                }
                if (java.util.Arrays.equals(set, next)) {
                    return rounds;
                }
                set = next;
            }
        }

        int rounds(String part) {
            char sign = part.charAt(0);
            if (sign != 'E' && sign != 'A' || part.charAt(1) == 'X') {
                return 0;
            }
            String one = first(part.substring(2));
            boolean[] w = holds(one);
            switch (part.substring(0, 2)) {
                case "EF":
                    return untilRounds(all(), w);
                case "EG":
                    return alwaysRounds(w);
                case "AF":
                    return alwaysRounds(not(w));
                case "AG":
                    return untilRounds(all(), not(w));
                default:
                    boolean[] v = holds(part.substring(2 + one.length()));
                    return sign == 'E' ? untilRounds(w, v)
                        : untilRounds(not(v), and(not(v), not(w))) + alwaysRounds(not(v));
            }
        }

        static int depth(String part) {
            char sign = part.charAt(0);
            if ("abcdt".indexOf(sign) >= 0) {
                return 1;
            }
            int at = sign == 'E' || sign == 'A' ? 2 : 1;
            int most = 0;
            while (at < part.length()) {
                String next = first(part.substring(at));
                most = Math.max(most, depth(next));
                at += next.length();
            }
            return 1 + most;
        }

        // witnesses, by trying rows in order

        /** The shortest row of steps from a world to a goal, the first of several, without the world itself. */
        List<Integer> shortest(int from, boolean[] through, boolean[] goal) {
            for (int steps = 1; steps <= 10; steps++) {
                List<Integer> row = new ArrayList<>();
                if (through[from] && extend(from, steps, through, goal, row)) {
                    return row;
                }
            }
            throw new AssertionError("no row");
        }

        boolean extend(int here, int steps, boolean[] through, boolean[] goal, List<Integer> row) {
            for (int next = 0; next < size(); next++) {
                if (edge[here][next]) {
                    row.add(next);
                    if (steps == 1 ? goal[next] : through[next] && extend(next, steps - 1, through, goal, row)) {
                        return true;
                    }
                    row.remove(row.size() - 1);
                }
            }
            return false;
        }

        List<Integer> until(int world, boolean[] w, boolean[] v) {
            List<Integer> row = new ArrayList<>();
            row.add(world);
            boolean[] goal = and(v, live());
            if (!goal[world]) {
                row.addAll(shortest(world, w, goal));
            }
            return row;
        }

        List<Integer> around(int world, boolean[] w) {
            boolean[] set = staying(w);
            boolean[] goal = set.clone();
            for (int k = 0; k < size(); k++) {
                goal[k] &= isGoal(k);
            }
            List<Integer> row = new ArrayList<>();
            row.add(world);
            List<Integer> reached = new ArrayList<>();
            while (true) {
                row.addAll(shortest(row.get(row.size() - 1), set, goal));
                Integer last = row.get(row.size() - 1);
                if (reached.contains(last)) {
                    return row;
                }
                reached.add(last);
            }
        }

        List<Integer> row(String text, int world) {
            List<Integer> none = new ArrayList<>();
            char sign = text.charAt(0);
            boolean here = holds(text)[world];
            if (!(sign == 'E' && here || sign == 'A' && !here)) {
                return none;
            }
            String one = first(text.substring(2));
            boolean[] w = holds(one);
            boolean some = sign == 'E';
            switch (text.charAt(1)) {
                case 'X':
                    boolean[] goal = and(live(), some ? w : not(w));
                    none.add(world);
                    for (int k = 0; k < size(); k++) {
                        if (edge[world][k] && goal[k]) {
                            none.add(k);
                            return none;
                        }
                    }
                    throw new AssertionError("no second world");
                case 'F':
                    return some ? until(world, all(), w) : around(world, not(w));
                case 'G':
                    return some ? around(world, w) : until(world, all(), not(w));
                default:
                    boolean[] v = holds(text.substring(2 + one.length()));
                    if (some) {
                        return until(world, w, v);
                    }
                    boolean[] neither = and(not(w), not(v));
                    return reaching(not(v), neither)[world] ? until(world, not(v), neither) : around(world, not(v));
            }
        }

        // looks

        static int mask(boolean[] set) {
            int mask = 0;
            for (int k = 0; k < set.length; k++) {
                mask |= set[k] ? 1 << k : 0;
            }
            return mask;
        }

        int world(int world, int what) {
            needWorld(world);
            need(what >= 0 && what <= 4);
            int mask = 0;
            for (int k = 0; k < size(); k++) {
                mask |= what == 1 && edge[world][k] ? 1 << k : 0;
                mask |= what == 2 && edge[k][world] ? 1 << k : 0;
            }
            for (int k = 0; k < 4; k++) {
                mask |= what == 4 && wishes[k] != null && holds(wishes[k])[world] ? 1 << k : 0;
            }
            return what == 0 ? letters.get(world) : what == 3 ? live()[world] ? 1 : 0 : mask;
        }

        int wish(int wish, int what) {
            needWish(wish);
            need(what >= 0 && what <= 3);
            String text = wishes[wish];
            if (text == null) {
                return -1;
            }
            int sum = 0;
            for (int k = 0; what == 2 && k < text.length(); k++) {
                sum += Math.max(0, sign(wish, k, 2));
            }
            return what == 0 ? text.length() : what == 1 ? mask(holds(text)) : what == 2 ? sum : depth(text);
        }

        int sign(int wish, int sign, int what) {
            needWish(wish);
            if (wishes[wish] == null || sign < 0 || sign >= wishes[wish].length()) {
                throw new IndexOutOfBoundsException();
            }
            need(what >= 0 && what <= 3);
            char code = wishes[wish].charAt(sign);
            if (what == 0) {
                return code;
            }
            if ("XFGU".indexOf(code) >= 0) {
                return -1;
            }
            String part = first(wishes[wish].substring(sign));
            return what == 1 ? mask(holds(part)) : what == 2 ? rounds(part) : part.length();
        }

        int witness(int wish, int world, int place) {
            needWish(wish);
            needWorld(world);
            need(place >= 0);
            if (wishes[wish] == null) {
                return -1;
            }
            List<Integer> row = row(wishes[wish], world);
            return place < row.size() ? row.get(place) : -1;
        }

        int compare(int one, int other) {
            needWish(one);
            needWish(other);
            if (wishes[one] == null || wishes[other] == null) {
                return -1;
            }
            boolean onlyOne = false;
            boolean onlyOther = false;
            for (int k = 0; k < size(); k++) {
                boolean a = holds(wishes[one])[k];
                boolean b = holds(wishes[other])[k];
                onlyOne |= a && !b;
                onlyOther |= b && !a;
            }
            return onlyOne ? onlyOther ? 3 : 2 : onlyOther ? 1 : 0;
        }

        int count(int what) {
            need(what >= 0 && what <= 8);
            int number = 0;
            for (int i = 0; i < size(); i++) {
                boolean stops = true;
                boolean everyWish = true;
                for (int j = 0; j < size(); j++) {
                    number += what == 1 && edge[i][j] ? 1 : 0;
                    stops &= !edge[i][j];
                }
                for (String text : wishes) {
                    everyWish &= text == null || holds(text)[i];
                }
                number += what == 0 || what == 2 && live()[i] || what == 3 && stops || what == 7 && everyWish ? 1 : 0;
            }
            for (String text : wishes) {
                number += text == null ? 0 : what == 5 ? 1 : what == 6 ? text.length() : 0;
            }
            return what == 4 ? fairLetter : what == 8 ? saved.size() : number;
        }

        int fixes(int wish, int world, int what) {
            needWish(wish);
            needWorld(world);
            need(what >= 0 && what <= 3);
            if (wishes[wish] == null) {
                return -1;
            }
            int number = 0;
            int first = -1;
            for (int k = 0; k < size() * (what < 2 ? 4 : size()); k++) {
                Model other = copy();
                int code;
                if (what < 2) {
                    code = k;
                    other.flip(k / 4, k % 4);
                } else {
                    code = 10 * (k / size()) + k % size();
                    other.step(k / size(), k % size());
                }
                if (other.holds(wishes[wish])[world]) {
                    number++;
                    first = first < 0 ? code : first;
                }
            }
            return what % 2 == 0 ? number : first;
        }

        int ifFair(int wish, int letter) {
            needWish(wish);
            need(letter >= -1 && letter <= 3);
            if (wishes[wish] == null) {
                return -1;
            }
            Model other = copy();
            other.fair(letter);
            return mask(other.holds(wishes[wish]));
        }

        double fulfilled() {
            int pairs = 0;
            int good = 0;
            for (String text : wishes) {
                for (int k = 0; text != null && k < size(); k++) {
                    pairs++;
                    good += holds(text)[k] ? 1 : 0;
                }
            }
            return pairs == 0 ? 1.0 : (double) good / pairs;
        }

        long digest() {
            List<Long> list = new ArrayList<>();
            for (int k = 0; k <= 8; k++) {
                list.add((long) count(k));
            }
            for (int k = 0; k < 5 * size(); k++) {
                list.add((long) world(k / 5, k % 5));
            }
            for (int w = 0; w < 4; w++) {
                for (int k = 0; k < 4; k++) {
                    list.add((long) wish(w, k));
                }
                for (int k = 0; wishes[w] != null && k < 4 * wishes[w].length(); k++) {
                    list.add((long) sign(w, k / 4, k % 4));
                }
                for (int k = 0; k < 4 * size(); k++) {
                    list.add((long) witness(w, k / 4, k % 4));
                }
                list.add((long) compare(w, 0));
                list.add((long) ifFair(w, -1));
                list.add((long) ifFair(w, 0));
                for (int k = 0; size() > 0 && k < 4; k++) {
                    list.add((long) fixes(w, 0, k));
                }
            }
            list.add(Double.doubleToLongBits(fulfilled()));
            list.add((long) buffer.length());
            for (int k = 0; k < buffer.length(); k++) {
                list.add((long) buffer.charAt(k));
            }
            long hash = 2621;
            for (long value : list) {
                hash = 31 * hash + value;
            }
            return hash;
        }
    }
}
