/** Promises 20 to 27: borders, shares, the child, rest, images, what is told. */
public final class BordersSharesTest {
    public static void main(String[] args) {
        over();
        dues();
        fruit();
        shares();
        sharesOfNobody();
        facing();
        rest();
        images();
        imagesKeepAll();
        told();
        Check.end();
    }

    private static void over() {
        BlindSown x = new BlindSown();
        x.set(0, 1, 2);
        x.set(1, 1, 2);
        Check.go(x, "Af7Bf4");
        for (int b = 0; b < 8; b++) {
            Check.due("P20 over(0, " + b + ")", x.over(0, b), 7 - b);
            Check.due("P20 over(1, " + b + ")", x.over(1, b), Math.max(0, 4 - b));
            Check.due("P20 over(2, " + b + ")", x.over(2, b), 0);
        }
        Check.due("P20 over(4, 0)", x.over(4, 0), BlindSown.UNKNOWN);
        Check.due("P20 over(-2, 0)", x.over(-2, 0), BlindSown.UNKNOWN);
        Check.due("P20 over(4, 8)", x.over(4, 8), BlindSown.UNKNOWN);
        Check.due("P20 over(0, -1)", x.over(0, -1), BlindSown.OUTSIDE);
        Check.due("P20 over(-1, 8)", x.over(-1, 8), BlindSown.OUTSIDE);
    }

    /** Lets grains fall up and down a column, seven at a time. */
    private static void fill(BlindSown x, int column, int grains) {
        x.set(0, 3, grains);
        for (int i = 0; i < 10 && x.about(0, 3) > 0; i++) {
            x.set(0, 0, column);
            x.set(0, 1, 4);
            Check.go(x, "Af7");
        }
    }

    private static void dues() {
        BlindSown x = new BlindSown();
        fill(x, 5, 9);
        fill(x, 1, 9);
        Check.due("P20 no full ten", x.over(-1, 4), 0);
        fill(x, 5, 1);
        Check.due("P20 a full ten", x.over(-1, 4), 3);
        Check.due("P20 x up to b is this side", x.over(-1, 5), 0);
        fill(x, 6, 29);
        Check.due("P20 39 of them", x.over(-1, 4), 9);
        fill(x, 6, 1);
        Check.due("P20 40, but only 9 here", x.over(-1, 4), 9);
        Check.due("P20 30 beyond 5", x.over(-1, 5), 9);
        fill(x, 7, 10);
        Check.due("P20 nothing on this side", x.over(-1, 0), 0);
        fill(x, 1, 3);
        Check.due("P20 50, but only 12 here", x.over(-1, 4), 12);
        fill(x, 1, 9);
        Check.due("P20 50", x.over(-1, 4), 15);
    }

    private static void fruit() {
        BlindSown x = new BlindSown();
        for (int kind = 0; kind < 4; kind++) {
            Check.due("P21 fruit", x.fruit(kind, 9), 5);
            Check.due("P21 fruit", x.fruit(kind, 1), 9);
            Check.due("P21 fruit(., 0)", x.fruit(kind, 0), BlindSown.OUTSIDE);
            Check.due("P21 fruit(., 10)", x.fruit(kind, 10), BlindSown.OUTSIDE);
            Check.due("P21 as it was", x.told(6 + kind), 1);
        }
        Check.due("P21 fruit(-1, 5)", x.fruit(-1, 5), BlindSown.UNKNOWN);
        Check.due("P21 fruit(4, 0)", x.fruit(4, 0), BlindSown.UNKNOWN);
    }

    private static void shares() {
        BlindSown x = new BlindSown();
        for (int s = 0; s < 4; s++) {
            x.set(s, 1, 2);
        }
        x.fruit(0, 1);
        Check.go(x, "Af1Bw1Cw1");
        Check.due("P22 all", x.share(-1), 1);
        Check.due("P22 of like rests the least", x.share(0), 1);
        Check.due("P22 of like rests the second", x.share(1), 0);
        Check.due("P22 who did not walk", x.share(3), 0);
        x.fruit(0, 5);
        int[] of = {2, 2, 1, 0};
        for (int s = 0; s < 4; s++) {
            Check.due("P22 share(" + s + ") of 5", x.share(s), of[s]);
        }
        Check.go(x, "Bw3");
        int[] then = {1, 3, 1, 0};
        for (int s = 0; s < 4; s++) {
            Check.due("P22 share(" + s + ") of 5 by 1, 4, 1", x.share(s), then[s]);
        }
        Check.due("P22 share(4)", x.share(4), BlindSown.UNKNOWN);
        Check.due("P22 share(-2)", x.share(-2), BlindSown.UNKNOWN);
    }

    private static void sharesOfNobody() {
        BlindSown x = new BlindSown();
        for (int s = -1; s < 4; s++) {
            Check.due("P22 nothing to share", x.share(s), 0);
        }
        x.set(0, 1, 2);
        Check.go(x, "Af2");
        for (int s = 0; s < 4; s++) {
            Check.due("P22 who walked gets all", x.share(s), s == 0 ? 10 : 0);
        }
    }

    private static void facing() {
        // Turns that face 0 to 7 from 0, for each WRONG; by -1 and 1 one of the two turns does nothing.
        int none = BlindSown.NONE;
        int[][] due = {
            {0, 3, 2, 3, 2, 1, 2, 1},
            {0, none, 3, none, 2, none, 1, none},
            {0, 1, 2, 3, 4, 3, 2, 1},
            {0, none, 1, none, 2, none, 3, none},
            {0, 1, 2, 1, 2, 3, 2, 3}};
        for (int wrong = 0; wrong < 5; wrong++) {
            for (int way = 0; way < 8; way++) {
                for (int from = 0; from < 8; from++) {
                    BlindSown x = new BlindSown();
                    x.set(1, 4, wrong);
                    x.set(1, 1, from);
                    String call = "P23 by " + wrong + " from " + from + " by eighths " + way;
                    Check.due(call, x.facing(1, (from + way) % 8), due[wrong][way]);
                }
            }
        }
        BlindSown x = new BlindSown();
        Check.due("P23 facing(-1, 0)", x.facing(-1, 0), BlindSown.UNKNOWN);
        Check.due("P23 facing(4, 8)", x.facing(4, 8), BlindSown.UNKNOWN);
        Check.due("P23 facing(0, -1)", x.facing(0, -1), BlindSown.OUTSIDE);
        Check.due("P23 facing(0, 8)", x.facing(0, 8), BlindSown.OUTSIDE);
    }

    private static void rest() {
        BlindSown x = new BlindSown();
        x.set(0, 0, 27);
        Check.due("P24 where they are", x.rest(0), 27);
        x.set(0, 1, 2);
        Check.go(x, "Af1");
        Check.due("P24 the least next to them", x.rest(0), 19);
        Check.due("P24 for another", x.rest(1), 0);
        Check.due("P24 rest(-1)", x.rest(-1), BlindSown.UNKNOWN);
        Check.due("P24 rest(4)", x.rest(4), BlindSown.UNKNOWN);
        for (int column = 0; column < 8; column++) {
            sowColumn(x, column);
        }
        Check.due("P24 there is none", x.rest(0), BlindSown.NONE);
        Check.due("P24 all cells have grains", x.told(10), 1 + 8 * 8);
    }

    /** All eight cells of a column: seven by one way, and the first by a step back. */
    private static void sowColumn(BlindSown x, int column) {
        x.set(3, 3, 8);
        x.set(3, 0, column);
        x.set(3, 1, 4);
        Check.go(x, "Df7");
        x.set(3, 0, column + 8);
        x.set(3, 1, 0);
        Check.go(x, "Df1");
    }

    private static void images() {
        BlindSown x = new BlindSown();
        Check.due("P25 image(-1)", x.image(-1), BlindSown.OUTSIDE);
        Check.due("P25 image(2)", x.image(2), BlindSown.OUTSIDE);
        Check.due("P26 restore(-1)", x.restore(-1), BlindSown.OUTSIDE);
        Check.due("P26 restore(2)", x.restore(2), BlindSown.OUTSIDE);
        Check.due("P26 restore(0)", x.restore(0), BlindSown.STATE);
        Check.due("P25 image(0)", x.image(0), 1);
        Check.due("P26 restore(1)", x.restore(1), BlindSown.STATE);
        x.set(0, 0, 5);
        Check.due("P25 image(1)", x.image(1), 1);
        x.set(0, 0, 6);
        Check.due("P26 restore(0)", x.restore(0), 1);
        Check.due("P26 as in 0", x.about(0, 0), 0);
        Check.due("P26 restore(1)", x.restore(1), 1);
        Check.due("P26 as in 1", x.about(0, 0), 5);
        Check.due("P25 kept anew", x.image(0), 1);
        x.set(0, 0, 9);
        x.restore(0);
        Check.due("P26 as in the new 0", x.about(0, 0), 5);
        x.set(0, 0, 9);
        x.restore(0);
        Check.due("P26 twice", x.about(0, 0), 5);
    }

    private static void imagesKeepAll() {
        BlindSown x = new BlindSown();
        for (int what = 0; what < 6; what++) {
            x.set(2, what, 1);
        }
        x.set(2, 1, 2);
        x.set(2, 4, 2);
        x.set(2, 3, 50);
        Check.go(x, "Cf9");
        x.post(7);
        x.post(3);
        x.row(4, 3);
        x.fruit(1, 8);
        x.image(1);
        int[] was = new int[8];
        for (int what = 0; what < 8; what++) {
            was[what] = x.about(2, what);
        }
        x.set(2, 1, 6);
        x.set(2, 2, 0);
        x.set(2, 4, 4);
        x.set(2, 5, 9);
        Check.go(x, "Cf9rf9");
        x.clear();
        x.row(4, 0);
        x.fruit(1, 2);
        Check.tell(x, "Abc");
        x.restore(1);
        for (int what = 0; what < 8; what++) {
            Check.due("P26 about(2, " + what + ")", x.about(2, what), was[what]);
        }
        Check.due("P26 the pad is not kept", x.told(0), 3);
        Check.due("P26 posts", x.told(1), 2);
        Check.due("P26 a post", x.told(3), 3);
        Check.due("P26 rows", x.row(4, -1), 3);
        Check.due("P26 fruits", x.told(7), 8);
        Check.due("P26 grains", x.told(10), 6);
        Check.due("P26 grains of a cell", x.up(7, 1), 1);
        Check.due("P26 grains in bags", x.told(11), 60 + 44);
    }

    private static void told() {
        BlindSown x = new BlindSown();
        Check.tell(x, "xyz");
        x.post(9);
        x.post(4);
        x.fruit(2, 7);
        x.set(3, 3, 99);
        int[] due = {3, 2, 9, 4, -6, -6, 5, 5, 7, 5, 0, 159};
        for (int what = 0; what < 12; what++) {
            Check.due("P27 told(" + what + ")", x.told(what), due[what]);
        }
        x.set(3, 1, 3);
        Check.go(x, "Df5");
        Check.due("P27 told(10)", x.told(10), 5);
        Check.due("P27 told(11)", x.told(11), 154);
        Check.due("P27 told(-1)", x.told(-1), BlindSown.OUTSIDE);
        Check.due("P27 told(12)", x.told(12), BlindSown.OUTSIDE);
    }
}
