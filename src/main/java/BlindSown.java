/** A field that is sown by night by those who can not see. The promises stand in DOC.md. */
public final class BlindSown {
    public static final int UNKNOWN = -1, OUTSIDE = -2, STATE = -3, FULL = -4, NO = -5, NONE = -6;

    private static final int SIDE = 8, CELLS = 64, WAYS = 8, KINDS = 4, SOWERS = 4, POSTS = 4;
    private static final int SIGNS = 40, LEAST_SIGN = 33, MOST_SIGN = 126;
    private static final int IMAGES = 2, MOST_BELLS = 2, ALL = -1;

    /** What set() and about() tell of a sower, by number. */
    private static final int PLACE = 0, WAY = 1, KIND = 2, GRAINS = 3, WRONG = 4, EAR = 5, WALKED = 6, OUT = 7;
    private static final int[] MOST_OF = {63, 7, 3, 99, 4, 9};

    /** WRONG is told with so much more, so that it is never below 0. */
    private static final int TOLD_MORE = 2;

    private static final int[] STEP_X = {0, 1, 1, 1, 0, -1, -1, -1};
    private static final int[] STEP_Y = {-1, -1, 0, 1, 1, 1, 0, -1};

    /** A slanting step is longer than a straight one, about as 10 to 7. */
    private static final int STRAIGHT_WEIGHT = 10, SLANT_WEIGHT = 7;

    /** More than anything that is counted or weighed here. */
    private static final int MANY = 1000000;

    /** The longest spiral: nine steps ahead of each of eight turns. */
    private static final int LONGEST_SPIRAL = 72;

    private final Pad pad;
    private final Land now;
    private final Land[] images;
    private final boolean[] kept;

    // Made once and used again by every call that only tries something.
    private final Land trial;
    private final Land swapped;
    private final BellSearch search;
    private final Thief robber;
    private final Trail trail;

    public BlindSown() {
        pad = new Pad();
        now = new Land();
        images = new Land[IMAGES];
        for (int i = 0; i < IMAGES; i++) {
            images[i] = new Land();
        }
        kept = new boolean[IMAGES];
        trial = new Land();
        swapped = new Land();
        search = new BellSearch();
        robber = new Thief();
        trail = new Trail();
    }

    // ---- 1 sowers, nights

    public int set(int sower, int what, int v) {
        if (!isSower(sower) || (what == KIND && !isKind(v))) {
            return UNKNOWN;
        }
        if (!within(what, PLACE, EAR) || !within(v, 0, MOST_OF[what])) {
            return OUTSIDE;
        }
        Sower one = now.crew.sowers[sower];
        int was = one.fact(what);
        one.put(what, v);
        return was;
    }

    public int post(int cell) {
        if (!isCell(cell)) {
            return OUTSIDE;
        }
        if (now.crew.hasPost(cell)) {
            return NO;
        }
        if (now.crew.postCount >= POSTS) {
            return FULL;
        }
        now.crew.addPost(cell);
        return now.crew.postCount;
    }

    public int clear() {
        int were = now.crew.postCount;
        now.crew.postCount = 0;
        return were;
    }

    public int say(int sign) {
        if (!within(sign, LEAST_SIGN, MOST_SIGN)) {
            return OUTSIDE;
        }
        if (pad.count >= SIGNS) {
            return FULL;
        }
        pad.add(sign);
        return pad.count;
    }

    public int wipe() {
        int were = pad.count;
        pad.count = 0;
        return were;
    }

    public int fault() {
        return pad.firstFault();
    }

    public int night() {
        if (pad.firstFault() != NONE) {
            return NO;
        }
        int parts = now.crew.goThrough(pad, now.field);
        pad.count = 0;
        return parts;
    }

    public int about(int sower, int what) {
        if (!isSower(sower)) {
            return UNKNOWN;
        }
        if (!within(what, PLACE, OUT)) {
            return OUTSIDE;
        }
        return now.crew.sowers[sower].fact(what);
    }

    // ---- 2 what came up

    public int up(int cell, int kind) {
        if (!isKindOrAll(kind)) {
            return UNKNOWN;
        }
        if (!isCell(cell)) {
            return OUTSIDE;
        }
        return now.field.grainsIn(cell, kind);
    }

    public int row(int cell, int kind) {
        if (!isKindOrAll(kind)) {
            return UNKNOWN;
        }
        if (!isCell(cell)) {
            return OUTSIDE;
        }
        int was = now.field.rows[cell];
        now.field.rows[cell] = kind == ALL ? NONE : kind;
        return was;
    }

    public int strayed(int kind, int what) {
        if (!isKindOrAll(kind)) {
            return UNKNOWN;
        }
        if (!within(what, 0, 1)) {
            return OUTSIDE;
        }
        return what == 0 ? now.field.strays(kind) : now.field.bareCells(kind);
    }

    public int guessed(int sower, int image) {
        if (!isSower(sower)) {
            return UNKNOWN;
        }
        if (!isImage(image)) {
            return OUTSIDE;
        }
        if (!kept[image]) {
            return STATE;
        }
        if (pad.firstFault() != NONE) {
            return NO;
        }
        int bits = 0;
        for (int wrong = 0; wrong <= MOST_OF[WRONG]; wrong++) {
            trial.copyFrom(images[image]);
            trial.crew.sowers[sower].put(WRONG, wrong);
            trial.crew.goThrough(pad, trial.field);
            if (trial.field.hasGrainsOf(now.field)) {
                bits |= 1 << wrong;
            }
        }
        return bits;
    }

    public int spiral(int f, int wrong, int what) {
        if (!within(f, 1, 9) || !within(wrong, 0, MOST_OF[WRONG]) || !within(what, 0, 1)) {
            return OUTSIDE;
        }
        int turn = 1 + wrong - TOLD_MORE;
        if (turn == 0) {
            return NONE;
        }
        int turns = turnsAllRound(turn);
        return what == 0 ? turns : trail.cellsOf(f, turn, turns);
    }

    // ---- 3 bells, thieves, bags

    public int bells(int posts, int what) {
        if (!within(posts, 0, MOST_BELLS) || !within(what, 0, MOST_BELLS)) {
            return OUTSIDE;
        }
        if (pad.firstFault() != NONE) {
            return NO;
        }
        if (what > posts) {
            return NONE;
        }
        search.seek(posts, now, pad);
        if (what == 0) {
            return now.field.strays(ALL) + search.fewest;
        }
        return what == 1 ? search.first : search.second;
    }

    public int thief(int cell, int way, int what) {
        if (!isCell(cell) || !isWay(way) || !within(what, 0, 2)) {
            return OUTSIDE;
        }
        robber.go(now, cell, way);
        if (what == 0) {
            return robber.minute;
        }
        return what == 1 ? robber.catcher : robber.loot;
    }

    public int safest(int what) {
        if (!within(what, 0, 2)) {
            return OUTSIDE;
        }
        int most = NONE, bestCell = NONE, bestWay = NONE;
        for (int cell = 0; cell < CELLS; cell++) {
            for (int way = 0; way < WAYS && onEdge(cell); way++) {
                robber.go(now, cell, way);
                if (robber.loot > most) {
                    most = robber.loot;
                    bestCell = cell;
                    bestWay = way;
                }
            }
        }
        if (what == 0) {
            return most;
        }
        return what == 1 ? bestCell : bestWay;
    }

    public int swap(int sower, int other) {
        if (!areTwoSowers(sower, other)) {
            return UNKNOWN;
        }
        now.crew.exchangeBags(sower, other);
        return 1;
    }

    public int found(int sower, int other) {
        if (!areTwoSowers(sower, other)) {
            return UNKNOWN;
        }
        if (pad.firstFault() != NONE) {
            return NO;
        }
        trial.copyFrom(now);
        swapped.copyFrom(now);
        swapped.crew.exchangeBags(sower, other);
        trial.crew.going = NONE;
        swapped.crew.going = NONE;
        int part = 0;
        for (int at = 0; at < pad.count; at++) {
            if (!pad.startsPart(at)) {
                continue;
            }
            trial.crew.goPart(pad, at, trial.field);
            swapped.crew.goPart(pad, at, swapped.field);
            if (!swapped.field.hasGrainsOf(trial.field)) {
                return part;
            }
            part++;
        }
        return NONE;
    }

    // ---- 4 borders, shares

    public int over(int kind, int b) {
        if (!isKindOrAll(kind)) {
            return UNKNOWN;
        }
        if (!within(b, 0, SIDE - 1)) {
            return OUTSIDE;
        }
        int beyond = now.field.grainsBeyond(b, kind);
        if (kind != ALL) {
            return beyond;
        }
        return Math.min(3 * (beyond / 10), now.field.allGrains() - beyond);
    }

    public int fruit(int kind, int v) {
        if (!isKind(kind)) {
            return UNKNOWN;
        }
        if (!within(v, 1, 9)) {
            return OUTSIDE;
        }
        int was = now.fruits[kind];
        now.fruits[kind] = v;
        return was;
    }

    public int share(int sower) {
        if (sower != ALL && !isSower(sower)) {
            return UNKNOWN;
        }
        return sower == ALL ? now.harvest() : now.partOfHarvest(sower);
    }

    public int facing(int sower, int way) {
        if (!isSower(sower)) {
            return UNKNOWN;
        }
        if (!isWay(way)) {
            return OUTSIDE;
        }
        return now.crew.sowers[sower].turnsToFace(way);
    }

    public int rest(int sower) {
        if (!isSower(sower)) {
            return UNKNOWN;
        }
        return now.field.nearestEmpty(now.crew.sowers[sower].place);
    }

    public int image(int n) {
        if (!isImage(n)) {
            return OUTSIDE;
        }
        images[n].copyFrom(now);
        kept[n] = true;
        return 1;
    }

    public int restore(int n) {
        if (!isImage(n)) {
            return OUTSIDE;
        }
        if (!kept[n]) {
            return STATE;
        }
        now.copyFrom(images[n]);
        return 1;
    }

    public int told(int what) {
        if (!within(what, 0, 11)) {
            return OUTSIDE;
        }
        if (what == 0) {
            return pad.count;
        }
        if (what == 1) {
            return now.crew.postCount;
        }
        if (what < 2 + POSTS) {
            return now.crew.postAt(what - 2);
        }
        if (what < 6 + KINDS) {
            return now.fruits[what - 6];
        }
        return what == 10 ? now.field.allGrains() : now.crew.grainsInBags();
    }

    // ---- numbers that are as told

    private static boolean within(int v, int least, int most) {
        return v >= least && v <= most;
    }

    private static boolean isSower(int v) {
        return within(v, 0, SOWERS - 1);
    }

    private static boolean areTwoSowers(int one, int other) {
        return isSower(one) && isSower(other) && one != other;
    }

    private static boolean isKind(int v) {
        return within(v, 0, KINDS - 1);
    }

    private static boolean isKindOrAll(int v) {
        return v == ALL || isKind(v);
    }

    private static boolean isCell(int v) {
        return within(v, 0, CELLS - 1);
    }

    private static boolean isWay(int v) {
        return within(v, 0, WAYS - 1);
    }

    private static boolean isImage(int v) {
        return within(v, 0, IMAGES - 1);
    }

    // ---- cells and ways

    /** The cell that a step leads into, or NONE if it would lead out of the field. */
    private static int stepFrom(int cell, int way) {
        int x = cell % SIDE + STEP_X[way & (WAYS - 1)];
        int y = cell / SIDE + STEP_Y[way & (WAYS - 1)];
        return within(x, 0, SIDE - 1) && within(y, 0, SIDE - 1) ? x + SIDE * y : NONE;
    }

    private static int cellsApart(int cell, int other) {
        int x = Math.abs(cell % SIDE - other % SIDE);
        int y = Math.abs(cell / SIDE - other / SIDE);
        return Math.max(x, y);
    }

    private static boolean onEdge(int cell) {
        int x = cell % SIDE, y = cell / SIDE;
        return x == 0 || x == SIDE - 1 || y == 0 || y == SIDE - 1;
    }

    /** The way that leads best from one cell to another, the least of like ones. */
    private static int bestWay(int from, int to) {
        int x = to % SIDE - from % SIDE, y = to / SIDE - from / SIDE;
        int best = 0, most = -MANY;
        for (int way = 0; way < WAYS; way++) {
            int weight = way % 2 == 0 ? STRAIGHT_WEIGHT : SLANT_WEIGHT;
            int lead = (STEP_X[way] * x + STEP_Y[way] * y) * weight;
            if (lead > most) {
                most = lead;
                best = way;
            }
        }
        return best;
    }

    /** After how many turns of so many eighths one faces as at first. */
    private static int turnsAllRound(int eighths) {
        int turns = 1;
        while (turns < WAYS && Math.floorMod(turns * eighths, WAYS) != 0) {
            turns++;
        }
        return turns;
    }

    /** The text of a night. */
    private static final class Pad {
        final int[] signs = new int[SIGNS];
        int count;

        void add(int sign) {
            if (count < SIGNS) {
                signs[count] = sign;
                count++;
            }
        }

        /** The sign there, or 0 where there is none. */
        int signAt(int at) {
            return at >= 0 && at < count && at < SIGNS ? signs[at] : 0;
        }

        int firstFault() {
            boolean someoneGoes = false;
            boolean digitDue = false;
            for (int at = 0; at < count; at++) {
                int sign = signAt(at);
                if (digitDue) {
                    if (!within(sign, '1', '9')) {
                        return at;
                    }
                    digitDue = false;
                } else if (isLetter(sign)) {
                    someoneGoes = true;
                } else if (!someoneGoes || !isDeed(sign)) {
                    return at;
                } else {
                    digitDue = sign == 'f' || sign == 'w';
                }
            }
            return digitDue ? count : NONE;
        }

        /** In a night without a fault, a digit is always the second sign of its part. */
        boolean startsPart(int at) {
            return !within(signAt(at), '0', '9');
        }

        boolean has(int sign) {
            for (int at = 0; at < count; at++) {
                if (signAt(at) == sign) {
                    return true;
                }
            }
            return false;
        }

        static boolean isLetter(int sign) {
            return within(sign, 'A', 'D');
        }

        static boolean isDeed(int sign) {
            return sign == 'f' || sign == 'w' || sign == 'r' || sign == 'l' || sign == 'b';
        }
    }

    /** What grains fall on. */
    private abstract static class Soil {
        abstract void take(int cell, int kind);
    }

    /** The cells: what came up in each, and what each should have. */
    private static final class Field extends Soil {
        final int[] grains = new int[CELLS * KINDS];
        final int[] rows = new int[CELLS];

        Field() {
            for (int cell = 0; cell < CELLS; cell++) {
                rows[cell] = NONE;
            }
        }

        void copyFrom(Field other) {
            System.arraycopy(other.grains, 0, grains, 0, CELLS * KINDS);
            System.arraycopy(other.rows, 0, rows, 0, CELLS);
        }

        void take(int cell, int kind) {
            int at = cell * KINDS + kind;
            if (at >= 0 && at < CELLS * KINDS) {
                grains[at]++;
            }
        }

        int grainsIn(int cell, int kind) {
            if (kind != ALL) {
                return grains[cell * KINDS + kind];
            }
            int sum = 0;
            for (int k = 0; k < KINDS; k++) {
                sum += grains[cell * KINDS + k];
            }
            return sum;
        }

        int allGrains() {
            return grainsBeyond(-1, ALL);
        }

        /** Grains in cells whose x is greater than b. */
        int grainsBeyond(int b, int kind) {
            int sum = 0;
            for (int cell = 0; cell < CELLS; cell++) {
                if (cell % SIDE > b) {
                    sum += grainsIn(cell, kind);
                }
            }
            return sum;
        }

        int strays(int kind) {
            int sum = 0;
            for (int cell = 0; cell < CELLS; cell++) {
                for (int k = 0; k < KINDS; k++) {
                    if ((kind == ALL || kind == k) && rows[cell] != k) {
                        sum += grains[cell * KINDS + k];
                    }
                }
            }
            return sum;
        }

        int bareCells(int kind) {
            int sum = 0;
            for (int cell = 0; cell < CELLS; cell++) {
                int due = rows[cell];
                if (isKind(due) && (kind == ALL || kind == due) && grainsIn(cell, due) == 0) {
                    sum++;
                }
            }
            return sum;
        }

        boolean hasGrainsOf(Field other) {
            for (int i = 0; i < CELLS * KINDS; i++) {
                if (grains[i] != other.grains[i]) {
                    return false;
                }
            }
            return true;
        }

        int nearestEmpty(int from) {
            int best = NONE, bestApart = SIDE;
            for (int cell = 0; cell < CELLS; cell++) {
                int apart = cellsApart(from, cell);
                if (apart < bestApart && grainsIn(cell, ALL) == 0) {
                    best = cell;
                    bestApart = apart;
                }
            }
            return best;
        }
    }

    /** Keeps no grains: it counts those that fall where they should not. */
    private static final class StrayTally extends Soil {
        Field plan;
        int count;

        void take(int cell, int kind) {
            if (plan != null && cell >= 0 && cell < CELLS && plan.rows[cell] != kind) {
                count++;
            }
        }
    }

    private static final class Sower {
        int place, way, kind, grains, wrong, ear, walked, out;

        Sower(int number) {
            kind = number;
            grains = 20;
            ear = 3;
        }

        void copyFrom(Sower other) {
            place = other.place;
            way = other.way;
            kind = other.kind;
            grains = other.grains;
            wrong = other.wrong;
            ear = other.ear;
            walked = other.walked;
            out = other.out;
        }

        int fact(int what) {
            switch (what) {
                case PLACE: return place;
                case WAY: return way;
                case KIND: return kind;
                case GRAINS: return grains;
                case WRONG: return wrong + TOLD_MORE;
                case EAR: return ear;
                case WALKED: return walked;
                default: return out;
            }
        }

        void put(int what, int v) {
            switch (what) {
                case PLACE: place = v; break;
                case WAY: way = v; break;
                case KIND: kind = v; break;
                case GRAINS: grains = v; break;
                case WRONG: wrong = v - TOLD_MORE; break;
                case EAR: ear = v; break;
                default: break;
            }
        }

        boolean hears(int cell) {
            return cellsApart(place, cell) <= ear;
        }

        void turn(int eighths) {
            way = Math.floorMod(way + eighths + wrong, WAYS);
        }

        void turnTo(int cell) {
            if (cell != place) {
                way = Math.floorMod(bestWay(place, cell) + wrong, WAYS);
            }
        }

        /** Without a soil to take them no grains fall. */
        void walk(int steps, Soil soil) {
            for (int done = 0; done < steps; done++) {
                int next = stepFrom(place, way);
                if (next == NONE) {
                    out += steps - done;
                    return;
                }
                place = next;
                walked++;
                if (soil != null && grains > 0) {
                    grains--;
                    soil.take(place, kind);
                }
            }
        }

        /** With eight ways, what is not faced after seven turns never is. */
        int turnsToFace(int goal) {
            for (int turns = 0; turns < WAYS; turns++) {
                for (int right = 0; right <= turns; right++) {
                    int left = turns - right;
                    if (Math.floorMod(way + right - left + turns * wrong, WAYS) == goal) {
                        return turns;
                    }
                }
            }
            return NONE;
        }
    }

    /** The sowers and the posts, and who goes on in the night that is done. */
    private static final class Crew {
        final Sower[] sowers = new Sower[SOWERS];
        final int[] posts = new int[POSTS];
        int postCount;
        int going = NONE;

        Crew() {
            for (int i = 0; i < SOWERS; i++) {
                sowers[i] = new Sower(i);
            }
        }

        void copyFrom(Crew other) {
            copySowersFrom(other);
            System.arraycopy(other.posts, 0, posts, 0, POSTS);
            postCount = other.postCount;
        }

        void copySowersFrom(Crew other) {
            for (int i = 0; i < SOWERS; i++) {
                sowers[i].copyFrom(other.sowers[i]);
            }
        }

        void addPost(int cell) {
            if (postCount < POSTS) {
                posts[postCount] = cell;
                postCount++;
            }
        }

        boolean hasPost(int cell) {
            for (int i = 0; i < postCount; i++) {
                if (posts[i] == cell) {
                    return true;
                }
            }
            return false;
        }

        int postAt(int i) {
            return i >= 0 && i < postCount ? posts[i] : NONE;
        }

        int grainsInBags() {
            int sum = 0;
            for (int i = 0; i < SOWERS; i++) {
                sum += sowers[i].grains;
            }
            return sum;
        }

        void exchangeBags(int i, int j) {
            Sower one = sowers[i], other = sowers[j];
            int kind = one.kind, grains = one.grains;
            one.kind = other.kind;
            one.grains = other.grains;
            other.kind = kind;
            other.grains = grains;
        }

        /** The least sower who hears what is in a cell. */
        int listener(int cell) {
            for (int i = 0; i < SOWERS; i++) {
                if (sowers[i].hears(cell)) {
                    return i;
                }
            }
            return NONE;
        }

        /** Does a night that has no fault, and counts its parts. */
        int goThrough(Pad pad, Soil soil) {
            int parts = 0;
            going = NONE;
            for (int at = 0; at < pad.count; at++) {
                if (pad.startsPart(at)) {
                    goPart(pad, at, soil);
                    parts++;
                }
            }
            return parts;
        }

        void goPart(Pad pad, int at, Soil soil) {
            int sign = pad.signAt(at);
            if (Pad.isLetter(sign)) {
                going = sign - 'A';
                return;
            }
            if (!isSower(going)) {
                return;
            }
            Sower one = sowers[going];
            switch (sign) {
                case 'f': one.walk(pad.signAt(at + 1) - '0', soil); break;
                case 'w': one.walk(pad.signAt(at + 1) - '0', null); break;
                case 'r': one.turn(1); break;
                case 'l': one.turn(-1); break;
                case 'b': turnToBell(one); break;
                default: break;
            }
        }

        private void turnToBell(Sower one) {
            int best = NONE, bestApart = SIDE;
            for (int i = 0; i < postCount; i++) {
                int apart = cellsApart(one.place, posts[i]);
                boolean better = apart < bestApart || (apart == bestApart && posts[i] < best);
                if (better && apart <= one.ear) {
                    best = posts[i];
                    bestApart = apart;
                }
            }
            if (best != NONE) {
                one.turnTo(best);
            }
        }
    }

    /** All that an image keeps. */
    private static final class Land {
        final Field field = new Field();
        final Crew crew = new Crew();
        final int[] fruits = new int[KINDS];

        Land() {
            for (int kind = 0; kind < KINDS; kind++) {
                fruits[kind] = 5;
            }
        }

        void copyFrom(Land other) {
            field.copyFrom(other.field);
            crew.copyFrom(other.crew);
            System.arraycopy(other.fruits, 0, fruits, 0, KINDS);
        }

        int harvest() {
            int sum = 0;
            for (int kind = 0; kind < KINDS; kind++) {
                sum += fruits[kind] * field.grainsBeyond(-1, kind);
            }
            return sum;
        }

        /** What is left over is less than the number of those with a rest: nobody gets two of it. */
        int partOfHarvest(int sower) {
            long all = harvest();
            int steps = allSteps();
            long parts = steps == 0 ? SOWERS : steps;
            long cut = all * claim(sower, steps) / parts;
            long rest = all * claim(sower, steps) % parts;
            long left = all;
            int ahead = 0;
            for (int i = 0; i < SOWERS; i++) {
                long claimed = all * claim(i, steps);
                left -= claimed / parts;
                if (claimed % parts > rest || (claimed % parts == rest && i < sower)) {
                    ahead++;
                }
            }
            return (int) (ahead < left ? cut + 1 : cut);
        }

        private int allSteps() {
            int sum = 0;
            for (int i = 0; i < SOWERS; i++) {
                sum += crew.sowers[i].walked;
            }
            return sum;
        }

        private int claim(int sower, int steps) {
            return steps == 0 ? 1 : crew.sowers[sower].walked;
        }
    }

    /** Tries all posts for a night. Only the grains that fall anew are counted. */
    private static final class BellSearch {
        final Crew crew = new Crew();
        final StrayTally tally = new StrayTally();
        int fewest, first, second;

        void seek(int posts, Land land, Pad pad) {
            tally.plan = land.field;
            fewest = MANY;
            // Where nobody turns to a bell all posts are alike, and the first trial is enough.
            int enough = pad.has('b') ? 0 : MANY - 1;
            int firsts = posts == 0 ? 1 : CELLS;
            for (int one = 0; one < firsts && fewest > enough; one++) {
                int seconds = posts == 2 ? CELLS : one + 2;
                for (int two = one + 1; two < seconds && fewest > enough; two++) {
                    tryPosts(posts, one, two, land, pad);
                }
            }
        }

        /** Grains only ever add up, so a trial that is no better than the best is given up. */
        private void tryPosts(int posts, int one, int two, Land land, Pad pad) {
            crew.copySowersFrom(land.crew);
            crew.posts[0] = one;
            crew.posts[1] = two;
            crew.postCount = posts;
            crew.going = NONE;
            tally.count = 0;
            for (int at = 0; at < pad.count && tally.count < fewest; at++) {
                if (pad.startsPart(at)) {
                    crew.goPart(pad, at, tally);
                }
            }
            if (tally.count < fewest) {
                fewest = tally.count;
                first = one;
                second = two;
            }
        }
    }

    /** One who goes straight on till they are heard, or to the edge. */
    private static final class Thief {
        int minute, catcher, loot;

        void go(Land land, int from, int way) {
            minute = NONE;
            catcher = NONE;
            loot = 0;
            int cell = from;
            for (int m = 0; m < SIDE && cell != NONE; m++) {
                catcher = land.crew.listener(cell);
                if (catcher != NONE) {
                    minute = m;
                    return;
                }
                loot += land.field.grainsIn(cell, ALL);
                cell = stepFrom(cell, way);
            }
        }
    }

    /** The cells of an endless field in which somebody has been. */
    private static final class Trail {
        final int[] xs = new int[LONGEST_SPIRAL];
        final int[] ys = new int[LONGEST_SPIRAL];
        int length;

        /** All turns together lead back to the first cell, so it is among those stepped into. */
        int cellsOf(int steps, int turn, int turns) {
            int x = 0, y = 0;
            length = 0;
            for (int done = 0; done < turns; done++) {
                int way = Math.floorMod(done * turn, WAYS);
                for (int i = 0; i < steps; i++) {
                    x += STEP_X[way];
                    y += STEP_Y[way];
                    visit(x, y);
                }
            }
            return length;
        }

        private void visit(int x, int y) {
            for (int i = 0; i < length; i++) {
                if (xs[i] == x && ys[i] == y) {
                    return;
                }
            }
            if (length < LONGEST_SPIRAL) {
                xs[length] = x;
                ys[length] = y;
                length++;
            }
        }
    }
}
