import java.util.ArrayList;
import java.util.Arrays;
import java.util.HashSet;
import java.util.List;
import java.util.Set;

/** Long runs of calls, told by a counter, against a second and slow telling of the document. */
public final class ModelTest {
    private static final int RUNS = 150, CALLS = 512;
    private static final String[] NAMES = {"set", "post", "clear", "say", "wipe", "fault", "night", "about", "up",
        "row", "strayed", "guessed", "spiral", "bells", "thief", "safest", "swap", "found", "over", "fruit", "share",
        "facing", "rest", "image", "restore", "told"};

    private long seed;

    private ModelTest(long seed) {
        this.seed = seed;
    }

    public static void main(String[] args) {
        for (int run = 0; run < RUNS; run++) {
            new ModelTest(7919L * run + 1).run(run);
        }
        wildNumbers();
        Check.end();
    }

    private int pick(int below) {
        seed = seed * 6364136223846793005L + 1442695040888963407L;
        return (int) ((seed >>> 33) % below);
    }

    private int near(int least, int most) {
        return pick(12) == 0 ? (pick(2) == 0 ? least - 1 : most + 1) : least + pick(most - least + 1);
    }

    private void run(int number) {
        BlindSown x = new BlindSown();
        Model m = new Model();
        int left = CALLS;
        List<int[]> queue = new ArrayList<>();
        while (left > 0) {
            if (queue.isEmpty()) {
                plan(queue, number);
            }
            int[] c = queue.remove(0);
            int got = call(x, c), want = m.call(c);
            Check.due("run " + number + ", " + NAMES[c[0]] + Arrays.toString(Arrays.copyOfRange(c, 1, 4)), got, want);
            if (got != want) {
                return;
            }
            left--;
        }
    }

    private void plan(List<int[]> queue, int number) {
        switch (pick(10)) {
            case 0: case 1: case 2:
                queue.add(call("wipe", 0, 0, 0));
                for (char sign : night().toCharArray()) {
                    queue.add(call("say", sign, 0, 0));
                }
                queue.add(call("fault", 0, 0, 0));
                queue.add(call(pick(3) == 0 ? "found" : "night", pick(4), pick(4), 0));
                break;
            case 3:
                again(queue);
                break;
            case 4:
                for (int i = 0; i < 8; i++) {
                    queue.add(call("row", pick(64), pick(4), 0));
                }
                break;
            case 5:
                if (number % 5 == 0 || pick(8) == 0) {
                    queue.add(call("bells", near(0, 2), near(0, 2), 0));
                }
                queue.add(call("guessed", pick(4), pick(2), 0));
                queue.add(call("found", pick(4), pick(4), 0));
                break;
            default:
                queue.add(any());
                break;
        }
    }

    /** Keeps an image, has a night done, tells it again and guesses. */
    private void again(List<int[]> queue) {
        String text = night();
        int image = pick(2);
        queue.add(call("wipe", 0, 0, 0));
        queue.add(call("image", image, 0, 0));
        for (int twice = 0; twice < 2; twice++) {
            for (char sign : text.toCharArray()) {
                queue.add(call("say", sign, 0, 0));
            }
            queue.add(twice == 0 ? call("night", 0, 0, 0) : call("guessed", pick(4), image, 0));
        }
        for (int s = 0; s < 4; s++) {
            queue.add(call("guessed", s, image, 0));
        }
        queue.add(call("bells", pick(3), 0, 0));
    }

    private String night() {
        StringBuilder text = new StringBuilder();
        int parts = pick(16);
        if (pick(20) != 0) {
            text.append((char) ('A' + pick(4)));
        }
        for (int i = 0; i < parts; i++) {
            switch (pick(7)) {
                case 0: text.append((char) ('A' + pick(4))); break;
                case 1: case 2: text.append('f').append(1 + pick(9)); break;
                case 3: text.append('w').append(1 + pick(9)); break;
                case 4: text.append('r'); break;
                case 5: text.append('l'); break;
                default: text.append('b'); break;
            }
        }
        if (pick(8) == 0) {
            text.append("fwx0E5".charAt(pick(6)));
        }
        return text.toString();
    }

    private int[] any() {
        int kind = near(-1, 3), sower = near(0, 3), cell = near(0, 63);
        int[] most = {63, 7, 3, 99, 4, 9, 9};
        switch (pick(19)) {
            case 0: case 1: {
                int what = near(0, 5);
                return call("set", sower, what, near(0, what < 0 ? 9 : most[what]));
            }
            case 2: return call("post", cell, 0, 0);
            case 3: return pick(3) == 0 ? call("clear", 0, 0, 0) : call("post", cell, 0, 0);
            case 4: return call("say", near(33, 126), 0, 0);
            case 5: return call("about", sower, near(0, 7), 0);
            case 6: return call("up", cell, kind, 0);
            case 7: return call("row", cell, kind, 0);
            case 8: return call("strayed", kind, near(0, 1), 0);
            case 9: return call("spiral", near(1, 9), near(0, 4), near(0, 1));
            case 10: return call("thief", cell, near(0, 7), near(0, 2));
            case 11: return call("safest", near(0, 2), 0, 0);
            case 12: return call("swap", sower, near(0, 3), 0);
            case 13: return call("over", kind, near(0, 7), 0);
            case 14: return call("fruit", near(0, 3), near(1, 9), 0);
            case 15: return call("share", near(-1, 3), 0, 0);
            case 16: return call("facing", sower, near(0, 7), 0);
            case 17: return pick(2) == 0 ? call("rest", sower, 0, 0) : call("told", near(0, 11), 0, 0);
            default: return call(pick(3) == 0 ? "restore" : "image", near(0, 1), 0, 0);
        }
    }

    private static int[] call(String name, int a, int b, int c) {
        return new int[] {Arrays.asList(NAMES).indexOf(name), a, b, c};
    }

    private static int call(BlindSown x, int[] c) {
        switch (NAMES[c[0]]) {
            case "set": return x.set(c[1], c[2], c[3]);
            case "post": return x.post(c[1]);
            case "clear": return x.clear();
            case "say": return x.say(c[1]);
            case "wipe": return x.wipe();
            case "fault": return x.fault();
            case "night": return x.night();
            case "about": return x.about(c[1], c[2]);
            case "up": return x.up(c[1], c[2]);
            case "row": return x.row(c[1], c[2]);
            case "strayed": return x.strayed(c[1], c[2]);
            case "guessed": return x.guessed(c[1], c[2]);
            case "spiral": return x.spiral(c[1], c[2], c[3]);
            case "bells": return x.bells(c[1], c[2]);
            case "thief": return x.thief(c[1], c[2], c[3]);
            case "safest": return x.safest(c[1]);
            case "swap": return x.swap(c[1], c[2]);
            case "found": return x.found(c[1], c[2]);
            case "over": return x.over(c[1], c[2]);
            case "fruit": return x.fruit(c[1], c[2]);
            case "share": return x.share(c[1]);
            case "facing": return x.facing(c[1], c[2]);
            case "rest": return x.rest(c[1]);
            case "image": return x.image(c[1]);
            case "restore": return x.restore(c[1]);
            default: return x.told(c[1]);
        }
    }

    /** Numbers far from all that is told: the model refuses them, and the machine throws nowhere. */
    private static void wildNumbers() {
        int[] wild = {Integer.MIN_VALUE, -100, -7, -6, -2, -1, 0, 1, 3, 4, 9, 64, 65536, Integer.MAX_VALUE};
        BlindSown x = new BlindSown();
        Model m = new Model();
        for (int name = 0; name < NAMES.length; name++) {
            for (int i = 0; i < wild.length * wild.length * wild.length; i++) {
                int a = wild[i % wild.length], b = wild[i / wild.length % wild.length];
                int[] c = {name, a, b, wild[i / wild.length / wild.length]};
                Check.due("wild " + NAMES[name] + Arrays.toString(c), call(x, c), m.call(c));
            }
        }
    }

    /** One who sows, by x and y. */
    private static final class Man {
        int x, y, way, kind, grains = 20, wrong, ear = 3, walked, out;

        Man copy() {
            Man c = new Man();
            c.x = x; c.y = y; c.way = way; c.kind = kind; c.grains = grains;
            c.wrong = wrong; c.ear = ear; c.walked = walked; c.out = out;
            return c;
        }

        int off(int cell) {
            return Math.max(Math.abs(x - cell % 8), Math.abs(y - cell / 8));
        }
    }

    /** All that is kept, copied as a whole wherever something is tried. */
    private static final class State {
        Man[] men = new Man[4];
        int[][][] up = new int[8][8][4];
        int[] row = new int[64];
        List<Integer> posts = new ArrayList<>();
        int[] fruit = {5, 5, 5, 5};

        State copy() {
            State c = new State();
            for (int i = 0; i < 4; i++) {
                c.men[i] = men[i].copy();
            }
            for (int i = 0; i < 512 / 8; i++) {
                c.up[i / 8][i % 8] = up[i / 8][i % 8].clone();
            }
            c.row = row.clone();
            c.posts = new ArrayList<>(posts);
            c.fruit = fruit.clone();
            return c;
        }

        int sum(int cell, int kind) {
            int[] of = up[cell % 8][cell / 8];
            return kind < 0 ? of[0] + of[1] + of[2] + of[3] : of[kind];
        }

        int strayed(int kind) {
            int n = 0;
            for (int cell = 0; cell < 64; cell++) {
                for (int k = 0; k < 4; k++) {
                    n += (kind < 0 || k == kind) && row[cell] != k ? sum(cell, k) : 0;
                }
            }
            return n;
        }

        void go(List<String> parts) {
            Man who = null;
            for (String part : parts) {
                who = part(part, who);
            }
        }

        Man part(String part, Man who) {
            char sign = part.charAt(0);
            if (sign <= 'D') {
                return men[sign - 'A'];
            }
            if (sign == 'r') {
                who.way = (who.way + 1 + who.wrong + 16) % 8;
            } else if (sign == 'l') {
                who.way = (who.way - 1 + who.wrong + 16) % 8;
            } else if (sign == 'b') {
                bell(who);
            } else {
                step(who, part.charAt(1) - '0', sign == 'f');
            }
            return who;
        }

        void step(Man who, int left, boolean sow) {
            if (left == 0) {
                return;
            }
            int x = who.x + dx(who.way), y = who.y + dy(who.way);
            if (x < 0 || y < 0 || x > 7 || y > 7) {
                who.out += left;
                return;
            }
            who.x = x;
            who.y = y;
            who.walked++;
            if (sow && who.grains > 0) {
                who.grains--;
                up[x][y][who.kind]++;
            }
            step(who, left - 1, sow);
        }

        void bell(Man who) {
            Integer post = posts.stream().filter(p -> who.off(p) <= who.ear)
                .min((p, q) -> who.off(p) != who.off(q) ? who.off(p) - who.off(q) : p - q).orElse(null);
            if (post == null || who.off(post) == 0) {
                return;
            }
            int best = 0;
            for (int way = 1; way < 8; way++) {
                if (lead(who, post, way) > lead(who, post, best)) {
                    best = way;
                }
            }
            who.way = (best + who.wrong + 8) % 8;
        }

        static int lead(Man who, int post, int way) {
            return (dx(way) * (post % 8 - who.x) + dy(way) * (post / 8 - who.y)) * (way % 2 == 0 ? 10 : 7);
        }

        static int dx(int way) {
            return way == 0 || way == 4 ? 0 : way < 4 ? 1 : -1;
        }

        static int dy(int way) {
            return dx((way + 6) % 8);
        }

        void swap(int a, int b) {
            int kind = men[a].kind, grains = men[a].grains;
            men[a].kind = men[b].kind;
            men[a].grains = men[b].grains;
            men[b].kind = kind;
            men[b].grains = grains;
        }
    }

    private static final class Model {
        static final int UNKNOWN = -1, OUTSIDE = -2, STATE = -3, FULL = -4, NO = -5, NONE = -6;
        State s = new State();
        State[] images = new State[2];
        String pad = "";

        Model() {
            for (int i = 0; i < 4; i++) {
                s.men[i] = new Man();
                s.men[i].kind = i;
            }
            Arrays.fill(s.row, NONE);
        }

        static boolean in(int v, int least, int most) {
            return v >= least && v <= most;
        }

        int call(int[] c) {
            int a = c[1], b = c[2], v = c[3];
            switch (NAMES[c[0]]) {
                case "set": return set(a, b, v);
                case "post": return post(a);
                case "clear": { int n = s.posts.size(); s.posts.clear(); return n; }
                case "say": return say(a);
                case "wipe": { int n = pad.length(); pad = ""; return n; }
                case "fault": return fault();
                case "night": return night();
                case "about": return !in(a, 0, 3) ? UNKNOWN : !in(b, 0, 7) ? OUTSIDE : fact(s.men[a], b);
                case "up": return !in(b, -1, 3) ? UNKNOWN : !in(a, 0, 63) ? OUTSIDE : s.sum(a, b);
                case "row": return row(a, b);
                case "strayed": return strayed(a, b);
                case "guessed": return guessed(a, b);
                case "spiral": return spiral(a, b, v);
                case "bells": return bells(a, b);
                case "thief": return !in(a, 0, 63) || !in(b, 0, 7) || !in(v, 0, 2) ? OUTSIDE : thief(a, b)[v];
                case "safest": return in(a, 0, 2) ? safest()[a] : OUTSIDE;
                case "swap": return swap(a, b);
                case "found": return found(a, b);
                case "over": return over(a, b);
                case "fruit": return fruit(a, b);
                case "share": return !in(a, -1, 3) ? UNKNOWN : shares()[a + 1];
                case "facing": return !in(a, 0, 3) ? UNKNOWN : !in(b, 0, 7) ? OUTSIDE : facing(s.men[a], b);
                case "rest": return in(a, 0, 3) ? rest(s.men[a]) : UNKNOWN;
                case "image": return image(a);
                case "restore": return restore(a);
                default: return told(a);
            }
        }

        static int fact(Man m, int what) {
            return new int[] {m.x + 8 * m.y, m.way, m.kind, m.grains, m.wrong + 2, m.ear, m.walked, m.out}[what];
        }

        int set(int sower, int what, int v) {
            if (!in(sower, 0, 3) || what == 2 && !in(v, 0, 3)) {
                return UNKNOWN;
            }
            int[] most = {63, 7, 3, 99, 4, 9};
            if (!in(what, 0, 5) || !in(v, 0, most[what])) {
                return OUTSIDE;
            }
            Man m = s.men[sower];
            int was = fact(m, what);
            if (what == 0) {
                m.x = v % 8;
                m.y = v / 8;
            }
            m.way = what == 1 ? v : m.way;
            m.kind = what == 2 ? v : m.kind;
            m.grains = what == 3 ? v : m.grains;
            m.wrong = what == 4 ? v - 2 : m.wrong;
            m.ear = what == 5 ? v : m.ear;
            return was;
        }

        int post(int cell) {
            if (!in(cell, 0, 63)) {
                return OUTSIDE;
            }
            if (s.posts.contains(cell)) {
                return NO;
            }
            if (s.posts.size() == 4) {
                return FULL;
            }
            s.posts.add(cell);
            return s.posts.size();
        }

        int say(int sign) {
            if (!in(sign, 33, 126)) {
                return OUTSIDE;
            }
            if (pad.length() == 40) {
                return FULL;
            }
            pad += (char) sign;
            return pad.length();
        }

        /** A text stands if it can be made longer into a night; the fault is the end of the longest start that can. */
        int fault() {
            if (pad.matches("([A-D]([fw][1-9]|[A-Drlb])*)?")) {
                return NONE;
            }
            int n = 0;
            while (n < pad.length() && pad.substring(0, n + 1).matches("[A-D]([fw][1-9]|[A-Drlb])*[fw]?")) {
                n++;
            }
            return n;
        }

        List<String> parts() {
            List<String> parts = new ArrayList<>();
            java.util.regex.Matcher m = java.util.regex.Pattern.compile("[fw].|.").matcher(pad);
            while (m.find()) {
                parts.add(m.group());
            }
            return parts;
        }

        int night() {
            if (fault() != NONE) {
                return NO;
            }
            int n = parts().size();
            s.go(parts());
            pad = "";
            return n;
        }

        int row(int cell, int kind) {
            if (!in(kind, -1, 3)) {
                return UNKNOWN;
            }
            if (!in(cell, 0, 63)) {
                return OUTSIDE;
            }
            int was = s.row[cell];
            s.row[cell] = kind < 0 ? NONE : kind;
            return was;
        }

        int strayed(int kind, int what) {
            if (!in(kind, -1, 3)) {
                return UNKNOWN;
            }
            if (!in(what, 0, 1)) {
                return OUTSIDE;
            }
            if (what == 0) {
                return s.strayed(kind);
            }
            int n = 0;
            for (int cell = 0; cell < 64; cell++) {
                int due = s.row[cell];
                n += due != NONE && (kind < 0 || due == kind) && s.sum(cell, due) == 0 ? 1 : 0;
            }
            return n;
        }

        int guessed(int sower, int image) {
            if (!in(sower, 0, 3)) {
                return UNKNOWN;
            }
            if (!in(image, 0, 1)) {
                return OUTSIDE;
            }
            if (images[image] == null) {
                return STATE;
            }
            if (fault() != NONE) {
                return NO;
            }
            int bits = 0;
            for (int wrong = -2; wrong <= 2; wrong++) {
                State t = images[image].copy();
                t.men[sower].wrong = wrong;
                t.go(parts());
                bits += Arrays.deepEquals(t.up, s.up) ? 1 << (wrong + 2) : 0;
            }
            return bits;
        }

        static int spiral(int f, int wrong, int what) {
            if (!in(f, 1, 9) || !in(wrong, 0, 4) || !in(what, 0, 1)) {
                return OUTSIDE;
            }
            if (wrong == 1) {
                return NONE;
            }
            Set<Integer> cells = new HashSet<>();
            int x = 500, y = 500, way = 0, turns = 0;
            cells.add(x * 1000 + y);
            do {
                for (int i = 0; i < f; i++) {
                    x += State.dx(way);
                    y += State.dy(way);
                    cells.add(x * 1000 + y);
                }
                way = (way + 1 + wrong - 2 + 8) % 8;
                turns++;
            } while (way != 0);
            return what == 0 ? turns : cells.size();
        }

        int bells(int posts, int what) {
            if (!in(posts, 0, 2) || !in(what, 0, 2)) {
                return OUTSIDE;
            }
            if (fault() != NONE) {
                return NO;
            }
            int[] best = {Integer.MAX_VALUE, NONE, NONE};
            for (int a = 0; a < (posts == 0 ? 1 : 64); a++) {
                for (int b = a + 1; b < (posts == 2 ? 64 : a + 2); b++) {
                    State t = s.copy();
                    t.posts = posts == 0 ? List.of() : posts == 1 ? List.of(a) : List.of(a, b);
                    t.go(parts());
                    if (t.strayed(-1) < best[0]) {
                        best = new int[] {t.strayed(-1), posts > 0 ? a : NONE, posts > 1 ? b : NONE};
                    }
                }
            }
            return best[what];
        }

        int[] thief(int cell, int way) {
            int loot = 0, x = cell % 8, y = cell / 8;
            for (int minute = 0; in(x, 0, 7) && in(y, 0, 7); minute++) {
                for (int i = 0; i < 4; i++) {
                    if (s.men[i].off(x + 8 * y) <= s.men[i].ear) {
                        return new int[] {minute, i, loot};
                    }
                }
                loot += s.sum(x + 8 * y, -1);
                x += State.dx(way);
                y += State.dy(way);
            }
            return new int[] {NONE, NONE, loot};
        }

        int[] safest() {
            int[] best = {-1, 0, 0};
            for (int cell = 0; cell < 64; cell++) {
                boolean edge = cell < 8 || cell > 55 || cell % 8 == 0 || cell % 8 == 7;
                for (int way = 0; edge && way < 8; way++) {
                    int loot = thief(cell, way)[2];
                    best = loot > best[0] ? new int[] {loot, cell, way} : best;
                }
            }
            return best;
        }

        int swap(int a, int b) {
            if (!in(a, 0, 3) || !in(b, 0, 3) || a == b) {
                return UNKNOWN;
            }
            s.swap(a, b);
            return 1;
        }

        int found(int a, int b) {
            if (!in(a, 0, 3) || !in(b, 0, 3) || a == b) {
                return UNKNOWN;
            }
            if (fault() != NONE) {
                return NO;
            }
            List<String> parts = parts();
            for (int n = 1; n <= parts.size(); n++) {
                State t = s.copy(), u = s.copy();
                u.swap(a, b);
                t.go(parts.subList(0, n));
                u.go(parts.subList(0, n));
                if (!Arrays.deepEquals(t.up, u.up)) {
                    return n - 1;
                }
            }
            return NONE;
        }

        int over(int kind, int b) {
            if (!in(kind, -1, 3)) {
                return UNKNOWN;
            }
            if (!in(b, 0, 7)) {
                return OUTSIDE;
            }
            int there = 0, here = 0;
            for (int cell = 0; cell < 64; cell++) {
                there += cell % 8 > b ? s.sum(cell, kind) : 0;
                here += cell % 8 <= b ? s.sum(cell, kind) : 0;
            }
            return kind >= 0 ? there : Math.min(there / 10 * 3, here);
        }

        int fruit(int kind, int v) {
            if (!in(kind, 0, 3)) {
                return UNKNOWN;
            }
            if (!in(v, 1, 9)) {
                return OUTSIDE;
            }
            int was = s.fruit[kind];
            s.fruit[kind] = v;
            return was;
        }

        /** All of it, and then each one's. */
        int[] shares() {
            int all = 0, steps = 0;
            for (int i = 0; i < 256; i++) {
                all += s.sum(i / 4, i % 4) * s.fruit[i % 4];
            }
            for (Man m : s.men) {
                steps += m.walked;
            }
            int[] shares = {all, 0, 0, 0, 0}, rests = new int[4];
            int left = all;
            for (int i = 0; i < 4; i++) {
                int walked = steps == 0 ? 1 : s.men[i].walked, of = steps == 0 ? 4 : steps;
                shares[i + 1] = all * walked / of;
                rests[i] = all * walked % of;
                left -= shares[i + 1];
            }
            for (; left > 0; left--) {
                int best = 0;
                for (int i = 1; i < 4; i++) {
                    best = rests[i] > rests[best] ? i : best;
                }
                shares[best + 1]++;
                rests[best] = -1;
            }
            return shares;
        }

        static int facing(Man m, int way) {
            Set<Integer> faced = new HashSet<>(Set.of(m.way));
            for (int turns = 0; turns < 20; turns++) {
                if (faced.contains(way)) {
                    return turns;
                }
                Set<Integer> next = new HashSet<>();
                for (int w : faced) {
                    next.add((w + 1 + m.wrong + 8) % 8);
                    next.add((w - 1 + m.wrong + 8) % 8);
                }
                faced = next;
            }
            return NONE;
        }

        int rest(Man m) {
            for (int off = 0; off < 8; off++) {
                for (int cell = 0; cell < 64; cell++) {
                    if (m.off(cell) == off && s.sum(cell, -1) == 0) {
                        return cell;
                    }
                }
            }
            return NONE;
        }

        int image(int n) {
            if (!in(n, 0, 1)) {
                return OUTSIDE;
            }
            images[n] = s.copy();
            return 1;
        }

        int restore(int n) {
            if (!in(n, 0, 1)) {
                return OUTSIDE;
            }
            if (images[n] == null) {
                return STATE;
            }
            s = images[n].copy();
            return 1;
        }

        int told(int what) {
            if (!in(what, 0, 11)) {
                return OUTSIDE;
            }
            int cells = 0, bags = 0;
            for (int cell = 0; cell < 64; cell++) {
                cells += s.sum(cell, -1);
            }
            for (Man m : s.men) {
                bags += m.grains;
            }
            if (what >= 2 && what <= 5) {
                return what - 2 < s.posts.size() ? s.posts.get(what - 2) : NONE;
            }
            if (what >= 6 && what <= 9) {
                return s.fruit[what - 6];
            }
            return what == 0 ? pad.length() : what == 1 ? s.posts.size() : what == 10 ? cells : bags;
        }
    }
}
