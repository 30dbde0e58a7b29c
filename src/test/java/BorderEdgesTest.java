/** Part 4 and promises 20 to 27, sentence by sentence: each test stands for the words ahead of it. */
public final class BorderEdgesTest {
    private static final int NONE = BlindSown.NONE, STATE = BlindSown.STATE;
    private static final int OUTSIDE = BlindSown.OUTSIDE, UNKNOWN = BlindSown.UNKNOWN;

    public static void main(String[] args) {
        bordersAtTheEdges();
        duesByFullTens();
        duesAtMost();
        duesOfAllKinds();
        fruitsOneToNine();
        sharesOfNothing();
        sharesOfOne();
        sharesAddUp();
        sharesLikeRests();
        sharesGreatestRests();
        facingAlready();
        facingFarthest();
        facingByNone();
        restWhereTheyAre();
        restLeastOfLikeOnes();
        restFarthest();
        restNowhere();
        imagesNotKept();
        imagesAndThePad();
        imagesAreTwo();
        imagesKeptAgain();
        imagesKeepEachThing();
        imagesKeepPosts();
        toldAtTheEnds();
        toldPosts();
        Check.end();
    }

    /** Has a sower let so many grains fall in the cells of a column, seven at a time. */
    private static void fill(BlindSown x, int sower, int column, int grains) {
        x.set(sower, 3, grains);
        for (int i = 0; i < 15 && x.about(sower, 3) > 0; i++) {
            x.set(sower, 0, column);
            x.set(sower, 1, 4);
            Check.go(x, (char) ('A' + sower) + "f7");
        }
    }

    // ---- borders

    /** "CELLS with x up to b (0 to 7) are this side. OVER: GRAINS of a KIND on the other side". */
    private static void bordersAtTheEdges() {
        BlindSown x = new BlindSown();
        for (int column = 0; column < 8; column++) {
            fill(x, 2, column, column + 1);
        }
        int[] due = {35, 33, 30, 26, 21, 15, 8, 0};
        for (int b = 0; b < 8; b++) {
            Check.due("over(2, " + b + ")", x.over(2, b), due[b]);
            Check.due("over(3, " + b + ")", x.over(3, b), 0);
        }
        Check.due("over(2, -1)", x.over(2, -1), OUTSIDE);
        Check.due("over(2, 8)", x.over(2, 8), OUTSIDE);
        Check.due("over(-1, -1)", x.over(-1, -1), OUTSIDE);
        Check.due("over(4, 7)", x.over(4, 7), UNKNOWN);
        Check.due("over(-2, 7)", x.over(-2, 7), UNKNOWN);
        Check.due("a bare field", new BlindSown().over(-1, 0), 0);
    }

    /** "DUES: 3 for each full ten of all GRAINS on the other side"; "Quotients are cut". */
    private static void duesByFullTens() {
        int[] grains = {0, 1, 9, 10, 11, 19, 20, 29, 30, 99};
        int[] due = {0, 0, 0, 3, 3, 3, 6, 6, 9, 27};
        for (int i = 0; i < grains.length; i++) {
            BlindSown x = new BlindSown();
            fill(x, 0, 7, grains[i]);
            fill(x, 1, 0, 50);
            Check.due("of " + grains[i] + " beyond 6", x.over(-1, 6), due[i]);
            Check.due("of " + grains[i] + " beyond 0", x.over(-1, 0), due[i]);
            Check.due("of none beyond 7", x.over(-1, 7), 0);
        }
    }

    /** "at most as many as are on this side". */
    private static void duesAtMost() {
        int[] here = {0, 1, 5, 6, 7};
        int[] due = {0, 1, 5, 6, 6};
        for (int i = 0; i < here.length; i++) {
            BlindSown x = new BlindSown();
            fill(x, 0, 4, 25);
            fill(x, 1, 3, here[i]);
            Check.due("25 there, " + here[i] + " here", x.over(-1, 3), due[i]);
            Check.due("all there", x.over(-1, 2), 0);
        }
    }

    private static void duesOfAllKinds() {
        BlindSown x = new BlindSown();
        fill(x, 0, 5, 4);
        fill(x, 1, 6, 3);
        fill(x, 2, 7, 2);
        fill(x, 3, 0, 7);
        Check.due("nine together", x.over(-1, 1), 0);
        fill(x, 3, 5, 1);
        Check.due("ten together", x.over(-1, 1), 3);
        Check.due("six beyond 5", x.over(-1, 5), 0);
    }

    /** "FRUIT: 1 to 9 by KIND; 5 at first". */
    private static void fruitsOneToNine() {
        BlindSown x = new BlindSown();
        for (int kind = 0; kind < 4; kind++) {
            Check.due("0", x.fruit(kind, 0), OUTSIDE);
            Check.due("10", x.fruit(kind, 10), OUTSIDE);
            Check.due("5 at first", x.fruit(kind, 1), 5);
            Check.due("1", x.fruit(kind, 9), 1);
            Check.due("9", x.told(6 + kind), 9);
        }
        Check.due("fruit(4, 1)", x.fruit(4, 1), UNKNOWN);
        Check.due("fruit(-1, 1)", x.fruit(-1, 1), UNKNOWN);
        Check.due("fruit(4, 0)", x.fruit(4, 0), UNKNOWN);
        int[] fruit = {1, 9, 2, 5};
        for (int kind = 0; kind < 4; kind++) {
            x.fruit(kind, fruit[kind]);
            fill(x, kind, kind, kind + 1);
        }
        Check.due("each by its KIND", x.share(-1), 1 * 1 + 2 * 9 + 3 * 2 + 4 * 5);
    }

    // ---- shares

    /** "(1 each, if nobody has walked)": nothing to share then, as grains fall by steps alone. */
    private static void sharesOfNothing() {
        BlindSown x = new BlindSown();
        for (int s = -1; s < 4; s++) {
            Check.due("share(" + s + ")", x.share(s), 0);
        }
        Check.go(x, "Af9Bw9");
        for (int s = -1; s < 4; s++) {
            Check.due("only out: share(" + s + ")", x.share(s), 0);
        }
        x.set(2, 1, 2);
        Check.go(x, "Cw5");
        for (int s = -1; s < 4; s++) {
            Check.due("walked without: share(" + s + ")", x.share(s), 0);
        }
        Check.due("share(-2)", x.share(-2), UNKNOWN);
        Check.due("share(4)", x.share(4), UNKNOWN);
    }

    private static void sharesOfOne() {
        for (int s = 0; s < 4; s++) {
            BlindSown x = new BlindSown();
            fill(x, s, 3, 13);
            Check.due("all of it", x.share(-1), 65);
            for (int i = 0; i < 4; i++) {
                Check.due("who walked alone has all", x.share(i), i == s ? 65 : 0);
            }
        }
    }

    /** "shares of the harvest that add up": whatever was walked. */
    private static void sharesAddUp() {
        for (int i = 0; i < 256; i++) {
            BlindSown x = new BlindSown();
            int[] steps = {i % 4, i / 4 % 4, i / 16 % 4, i / 64 + 1};
            StringBuilder night = new StringBuilder();
            for (int s = 0; s < 4; s++) {
                x.set(s, 1, 2);
                night.append(steps[s] == 0 ? "" : (char) ('A' + s) + (s % 2 == 0 ? "w" : "f") + steps[s]);
            }
            x.fruit(3, 7);
            Check.go(x, night.toString());
            int all = 5 * steps[1] + 7 * steps[3];
            int walked = steps[0] + steps[1] + steps[2] + steps[3];
            Check.due("all of " + night, x.share(-1), all);
            Check.due("adds up: " + night, x.share(0) + x.share(1) + x.share(2) + x.share(3), all);
            for (int s = 0; s < 4; s++) {
                int cut = all * steps[s] / walked;
                boolean even = all * steps[s] % walked == 0;
                int share = x.share(s);
                Check.holds("cut or one more: " + night, share == cut || !even && share == cut + 1);
            }
        }
    }

    /** "what is left over one by one to those with the greatest rests, of like ones the least first". */
    private static void sharesLikeRests() {
        BlindSown x = new BlindSown();
        for (int s = 0; s < 4; s++) {
            x.set(s, 1, 2);
        }
        Check.go(x, "Df1Aw1Bw1Cw1");
        int[][] due = {{1, 0, 0, 0}, {1, 1, 0, 0}, {1, 1, 1, 0}, {1, 1, 1, 1}, {2, 1, 1, 1},
            {2, 2, 1, 1}, {2, 2, 2, 1}, {2, 2, 2, 2}, {3, 2, 2, 2}};
        for (int fruit = 1; fruit <= 9; fruit++) {
            x.fruit(3, fruit);
            for (int s = 0; s < 4; s++) {
                Check.due(fruit + " among four: share(" + s + ")", x.share(s), due[fruit - 1][s]);
            }
        }
    }

    /** A greater rest goes ahead of a lesser SOWER, and who has none gets nothing of what is left. */
    private static void sharesGreatestRests() {
        BlindSown x = new BlindSown();
        for (int s = 0; s < 4; s++) {
            x.set(s, 1, 2);
        }
        Check.go(x, "Af1Bw2Cw3Dw4");
        // By 1, 2, 3, 4 of ten.
        int[][] due = {{0, 0, 0, 1}, {0, 0, 1, 1}, {0, 1, 1, 1}, {0, 1, 1, 2}, {1, 1, 1, 2},
            {1, 1, 2, 2}, {1, 1, 2, 3}, {1, 2, 2, 3}, {1, 2, 3, 3}};
        for (int fruit = 1; fruit <= 9; fruit++) {
            x.fruit(0, fruit);
            for (int s = 0; s < 4; s++) {
                Check.due(fruit + " by 1, 2, 3, 4: share(" + s + ")", x.share(s), due[fruit - 1][s]);
            }
        }
    }

    // ---- the child, rest

    private static void facingAlready() {
        BlindSown x = new BlindSown();
        for (int wrong = 0; wrong < 5; wrong++) {
            for (int way = 0; way < 8; way++) {
                x.set(3, 4, wrong);
                x.set(3, 1, way);
                Check.due("no turn is needed", x.facing(3, way), 0);
                Check.due("and none is done", x.about(3, 1), way);
            }
        }
        Check.due("facing(3, 8)", x.facing(3, 8), OUTSIDE);
        Check.due("facing(3, -1)", x.facing(3, -1), OUTSIDE);
        Check.due("facing(4, 8)", x.facing(4, 8), UNKNOWN);
        Check.due("facing(-1, 0)", x.facing(-1, 0), UNKNOWN);
    }

    /** "the fewest after which they face a WAY": each by a night that does it, and none that is shorter. */
    private static void facingFarthest() {
        for (int wrong = 0; wrong < 5; wrong++) {
            for (int way = 0; way < 8; way++) {
                BlindSown x = new BlindSown();
                x.set(1, 4, wrong);
                x.set(1, 1, 6);
                Check.due("by " + (wrong - 2) + " to " + way, x.facing(1, way), fewestTurns(6, way, wrong - 2));
            }
        }
        BlindSown x = new BlindSown();
        Check.due("half round", x.facing(0, 4), 4);
        Check.due("past 0", x.facing(0, 7), 1);
        x.set(0, 1, 7);
        Check.due("past 7", x.facing(0, 0), 1);
    }

    /** Tries every text of r and l, by length. */
    private static int fewestTurns(int from, int to, int wrong) {
        for (int length = 0; length < 12; length++) {
            for (int bits = 0; bits < 1 << length; bits++) {
                int way = from;
                for (int i = 0; i < length; i++) {
                    way += (bits >> i & 1) * 2 - 1 + wrong;
                }
                if (Math.floorMod(way, 8) == to) {
                    return length;
                }
            }
        }
        return NONE;
    }

    /** "NONE: by none": one eighth wrong, and every turn is of two eighths or of none. */
    private static void facingByNone() {
        BlindSown x = new BlindSown();
        for (int wrong : new int[] {1, 3}) {
            x.set(2, 4, wrong);
            for (int way = 0; way < 8; way++) {
                boolean none = x.facing(2, way) == NONE;
                Check.holds("by " + (wrong - 2) + " to " + way, none == (way % 2 == 1));
            }
            Check.due("the longest", x.facing(2, wrong == 1 ? 2 : 6), 3);
        }
    }

    /** "of CELLS without GRAINS that which is nearest to a SOWER". */
    private static void restWhereTheyAre() {
        BlindSown x = new BlindSown();
        for (int s = 0; s < 4; s++) {
            for (int cell : new int[] {0, 7, 28, 56, 63}) {
                x.set(s, 0, cell);
                Check.due("on a bare field", x.rest(s), cell);
            }
        }
        Check.due("rest(-1)", x.rest(-1), UNKNOWN);
        Check.due("rest(4)", x.rest(4), UNKNOWN);
    }

    /** "(the greater of x and y), the least such". */
    private static void restLeastOfLikeOnes() {
        BlindSown x = new BlindSown();
        x.set(0, 0, 26);
        x.set(0, 1, 2);
        Check.go(x, "Af1");
        Check.due("above, to the left", x.rest(0), 18);
        x.set(1, 0, 17);
        x.set(1, 1, 2);
        Check.go(x, "Bf3");
        Check.due("the row above has grains", x.rest(0), 26);
        x.set(1, 0, 25);
        x.set(1, 1, 2);
        Check.go(x, "Bf1");
        Check.due("then to the right", x.rest(0), 28);
        x.set(2, 0, 9);
        Check.due("another has theirs", x.rest(2), 9);
        x.set(2, 0, 18);
        Check.due("and theirs", x.rest(2), 9);
    }

    /** Grains in all cells but one. */
    private static BlindSown fullBut(int bare) {
        BlindSown x = new BlindSown();
        x.set(0, 3, 99);
        for (int row = 0; row < 8; row++) {
            sowRow(x, row, bare);
        }
        return x;
    }

    private static void sowRow(BlindSown x, int row, int bare) {
        StringBuilder night = new StringBuilder("A");
        for (int column = 1; column < 8; column++) {
            night.append(8 * row + column == bare ? "w1" : "f1");
        }
        // Back to the second cell, and from there into the first.
        night.append("rrrrw6").append(8 * row == bare ? "w1" : "f1");
        x.set(0, 0, 8 * row);
        x.set(0, 1, 2);
        Check.go(x, night.toString());
    }

    private static void restFarthest() {
        int[] corners = {0, 7, 56, 63};
        for (int bare : corners) {
            BlindSown x = fullBut(bare);
            Check.due("all but one", x.told(10), 63);
            for (int s = 0; s < 4; s++) {
                x.set(s, 0, 63 - bare);
                Check.due("the only one, seven off", x.rest(s), bare);
            }
        }
    }

    /** "a CELL; NONE". */
    private static void restNowhere() {
        BlindSown x = fullBut(-1);
        Check.due("all", x.told(10), 64);
        for (int s = 0; s < 4; s++) {
            Check.due("nowhere", x.rest(s), NONE);
        }
        Check.due("rest(4)", x.rest(4), UNKNOWN);
    }

    // ---- images, what is told

    /** "OUTSIDE; STATE: it was not". */
    private static void imagesNotKept() {
        BlindSown x = new BlindSown();
        for (int n : new int[] {-1, 2}) {
            Check.due("image(" + n + ")", x.image(n), OUTSIDE);
            Check.due("restore(" + n + ")", x.restore(n), OUTSIDE);
        }
        Check.due("restore(0)", x.restore(0), STATE);
        Check.due("restore(1)", x.restore(1), STATE);
        Check.due("image(1)", x.image(1), 1);
        Check.due("restore(0), still", x.restore(0), STATE);
        Check.due("restore(1)", x.restore(1), 1);
        Check.due("restore(1), twice", x.restore(1), 1);
        Check.due("restore(0), behind it", x.restore(0), STATE);
    }

    /** "All but the PAD is kept". */
    private static void imagesAndThePad() {
        BlindSown x = new BlindSown();
        Check.tell(x, "Arf");
        x.image(0);
        Check.due("image leaves the pad", x.told(0), 3);
        x.wipe();
        x.restore(0);
        Check.due("its signs do not come back", x.told(0), 0);
        Check.tell(x, "Bl");
        x.restore(0);
        Check.due("nor go", x.told(0), 2);
        Check.due("nor change", x.night(), 2);
        Check.due("B turned", x.about(1, 1), 7);
        Check.due("A did not", x.about(0, 1), 0);
    }

    /** "in an IMAGE (0, 1)": each its own. */
    private static void imagesAreTwo() {
        BlindSown x = new BlindSown();
        x.set(0, 0, 10);
        x.image(0);
        x.set(0, 0, 11);
        x.image(1);
        x.set(0, 0, 12);
        x.restore(0);
        Check.due("0", x.about(0, 0), 10);
        x.restore(1);
        Check.due("1", x.about(0, 0), 11);
        x.restore(0);
        Check.due("0 again", x.about(0, 0), 10);
    }

    /** "It is as it was when it was kept": the last time, and not as it became. */
    private static void imagesKeptAgain() {
        BlindSown x = new BlindSown();
        x.image(0);
        x.set(3, 1, 5);
        x.post(9);
        Check.due("kept over it", x.image(0), 1);
        x.set(3, 1, 6);
        x.post(10);
        x.restore(0);
        Check.due("as kept last", x.about(3, 1), 5);
        Check.due("its POSTS", x.told(1), 1);
        x.set(3, 1, 7);
        x.row(5, 2);
        Check.go(x, "Drf3");
        x.fruit(0, 1);
        x.restore(0);
        Check.due("what comes later does not change it", x.about(3, 1), 5);
        Check.due("nor its rows", x.row(5, 2), NONE);
        Check.due("nor its fruits", x.told(6), 5);
        Check.due("nor its grains", x.told(11), 80);
    }

    /** Each thing that can be told of an object, kept and brought back by itself. */
    private static void imagesKeepEachThing() {
        for (int s = 0; s < 4; s++) {
            for (int what = 0; what < 6; what++) {
                BlindSown x = new BlindSown();
                int was = x.about(s, what);
                x.image(1);
                x.set(s, what, was == 1 ? 2 : 1);
                x.restore(1);
                Check.due("about(" + s + ", " + what + ")", x.about(s, what), was);
            }
            BlindSown x = new BlindSown();
            x.set(s, 1, 2);
            x.image(0);
            Check.go(x, (char) ('A' + s) + "f9");
            Check.due("walked", x.about(s, 6), 7);
            x.restore(0);
            Check.due("WALKED", x.about(s, 6), 0);
            Check.due("OUT", x.about(s, 7), 0);
            Check.due("LEFT", x.about(s, 3), 20);
            Check.due("CAME UP", x.up(7, s), 0);
            Check.due("place", x.about(s, 0), 0);
        }
        BlindSown x = new BlindSown();
        x.image(0);
        for (int cell = 0; cell < 64; cell++) {
            x.row(cell, 1);
        }
        for (int i = 0; i < 4; i++) {
            x.post(60 + i);
            x.fruit(i, 9);
        }
        x.image(1);
        x.restore(0);
        Check.due("no POSTS", x.told(1), 0);
        Check.due("no rows", x.strayed(-1, 1), 0);
        Check.due("FRUITS as at first", x.told(6) + x.told(7) + x.told(8) + x.told(9), 20);
        x.restore(1);
        for (int i = 0; i < 4; i++) {
            Check.due("POST " + i, x.told(2 + i), 60 + i);
            Check.due("FRUIT " + i, x.told(6 + i), 9);
        }
        Check.due("all rows", x.strayed(1, 1), 64);
    }

    /** POSTS in other CELLS, as many and fewer: those that were kept come back. */
    private static void imagesKeepPosts() {
        BlindSown x = new BlindSown();
        int[] cells = {63, 0, 40, 7};
        for (int cell : cells) {
            x.post(cell);
        }
        x.image(1);
        x.clear();
        x.image(0);
        for (int cell = 10; cell < 14; cell++) {
            x.post(cell);
        }
        x.restore(1);
        for (int i = 0; i < 4; i++) {
            Check.due("POST " + i, x.told(2 + i), cells[i]);
        }
        Check.due("a fifth", x.post(1), BlindSown.FULL);
        x.restore(0);
        Check.due("none", x.told(2), NONE);
        Check.due("there is room", x.post(63), 1);
    }

    private static void toldAtTheEnds() {
        BlindSown x = new BlindSown();
        Check.due("told(-1)", x.told(-1), OUTSIDE);
        Check.due("told(12)", x.told(12), OUTSIDE);
        Check.due("told(0)", x.told(0), 0);
        Check.due("told(11)", x.told(11), 80);
        Check.tell(x, "!".repeat(40));
        Check.due("all signs", x.told(0), 40);
        for (int kind = 0; kind < 4; kind++) {
            x.fruit(kind, 9 - kind);
            x.set(kind, 3, 90 + kind);
        }
        for (int kind = 0; kind < 4; kind++) {
            Check.due("FRUIT of " + kind, x.told(6 + kind), 9 - kind);
        }
        Check.due("in BAGS", x.told(11), 366);
        Check.due("in CELLS", x.told(10), 0);
        Check.due("in CELLS, all of them", fullBut(-1).told(10), 64);
    }

    /** "2 to 5 CELLS of POSTS (NONE: not so many)". */
    private static void toldPosts() {
        BlindSown x = new BlindSown();
        int[] cells = {63, 0, 40, 7};
        for (int n = 0; n <= 4; n++) {
            Check.due("POSTS", x.told(1), n);
            for (int i = 0; i < 4; i++) {
                Check.due("POST " + i + " of " + n, x.told(2 + i), i < n ? cells[i] : NONE);
            }
            if (n < 4) {
                x.post(cells[n]);
            }
        }
        x.clear();
        for (int i = 0; i < 4; i++) {
            Check.due("cleared", x.told(2 + i), NONE);
        }
    }
}
