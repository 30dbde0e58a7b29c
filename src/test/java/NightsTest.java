/** Promises 1 to 9: a new object, sowers, posts, the pad, nights. */
public final class NightsTest {
    private static final int[] MOST = {63, 7, 3, 99, 4, 9};

    public static void main(String[] args) {
        newObject();
        setTells();
        setRefuses();
        posts();
        pad();
        faults();
        walking();
        turning();
        bellsHeard();
        bellWays();
        nights();
        about();
        Check.end();
    }

    private static void newObject() {
        BlindSown x = new BlindSown();
        for (int s = 0; s < 4; s++) {
            int[] first = {0, 0, s, 20, 2, 3, 0, 0};
            for (int what = 0; what < 8; what++) {
                Check.due("P1 about(" + s + ", " + what + ")", x.about(s, what), first[what]);
            }
        }
        for (int cell = 0; cell < 64; cell++) {
            Check.due("P1 up(" + cell + ", -1)", x.up(cell, -1), 0);
            Check.due("P1 row(" + cell + ", -1)", x.row(cell, -1), BlindSown.NONE);
        }
        int[] told = {0, 0, -6, -6, -6, -6, 5, 5, 5, 5, 0, 80};
        for (int what = 0; what < 12; what++) {
            Check.due("P1 told(" + what + ")", x.told(what), told[what]);
        }
        Check.due("P1 restore(0)", x.restore(0), BlindSown.STATE);
        Check.due("P1 restore(1)", x.restore(1), BlindSown.STATE);
    }

    private static void setTells() {
        BlindSown x = new BlindSown();
        for (int s = 0; s < 4; s++) {
            int[] was = {0, 0, s, 20, 2, 3};
            for (int what = 0; what < 6; what++) {
                Check.due("P2 set to the most", x.set(s, what, MOST[what]), was[what]);
                Check.due("P2 about then", x.about(s, what), MOST[what]);
                Check.due("P2 set to 0", x.set(s, what, 0), MOST[what]);
                Check.due("P2 about then", x.about(s, what), 0);
            }
        }
    }

    private static void setRefuses() {
        BlindSown x = new BlindSown();
        Check.due("P2 set(-1, 0, 0)", x.set(-1, 0, 0), BlindSown.UNKNOWN);
        Check.due("P2 set(4, 0, 0)", x.set(4, 0, 0), BlindSown.UNKNOWN);
        Check.due("P2 set(4, 9, 999)", x.set(4, 9, 999), BlindSown.UNKNOWN);
        Check.due("P2 set(0, -1, 0)", x.set(0, -1, 0), BlindSown.OUTSIDE);
        Check.due("P2 set(0, 6, 0)", x.set(0, 6, 0), BlindSown.OUTSIDE);
        for (int what = 0; what < 6; what++) {
            int due = what == 2 ? BlindSown.UNKNOWN : BlindSown.OUTSIDE;
            Check.due("P2 set(1, " + what + ", -1)", x.set(1, what, -1), due);
            Check.due("P2 set(1, " + what + ", most + 1)", x.set(1, what, MOST[what] + 1), due);
        }
        int[] first = {0, 0, 1, 20, 2, 3, 0, 0};
        for (int what = 0; what < 8; what++) {
            Check.due("P2 about(1, " + what + ") is as it was", x.about(1, what), first[what]);
        }
    }

    private static void posts() {
        BlindSown x = new BlindSown();
        Check.due("P3 post(-1)", x.post(-1), BlindSown.OUTSIDE);
        Check.due("P3 post(64)", x.post(64), BlindSown.OUTSIDE);
        Check.due("P3 post(63)", x.post(63), 1);
        Check.due("P3 post(0)", x.post(0), 2);
        Check.due("P3 post(63) again", x.post(63), BlindSown.NO);
        Check.due("P3 post(9)", x.post(9), 3);
        Check.due("P3 post(8)", x.post(8), 4);
        Check.due("P3 a fifth", x.post(7), BlindSown.FULL);
        Check.due("P3 NO comes ahead of FULL", x.post(8), BlindSown.NO);
        Check.due("P3 OUTSIDE comes ahead of FULL", x.post(64), BlindSown.OUTSIDE);
        int[] cells = {63, 0, 9, 8};
        for (int i = 0; i < 4; i++) {
            Check.due("P3 told(" + (2 + i) + ")", x.told(2 + i), cells[i]);
        }
        Check.due("P4 clear()", x.clear(), 4);
        Check.due("P4 clear() again", x.clear(), 0);
        Check.due("P4 told(2)", x.told(2), BlindSown.NONE);
        Check.due("P4 a post where one was", x.post(63), 1);
    }

    private static void pad() {
        BlindSown x = new BlindSown();
        int[] wrong = {-1, 0, 32, 127, 1000, Integer.MIN_VALUE, Integer.MAX_VALUE};
        for (int sign : wrong) {
            Check.due("P5 say(" + sign + ")", x.say(sign), BlindSown.OUTSIDE);
        }
        for (int i = 1; i <= 40; i++) {
            Check.due("P5 say", x.say(i % 2 == 0 ? 33 : 126), i);
        }
        Check.due("P5 a sign too many", x.say('A'), BlindSown.FULL);
        Check.due("P5 OUTSIDE comes ahead of FULL", x.say(32), BlindSown.OUTSIDE);
        Check.due("P5 told(0)", x.told(0), 40);
        Check.due("P6 wipe()", x.wipe(), 40);
        Check.due("P6 wipe() again", x.wipe(), 0);
        Check.due("P6 told(0)", x.told(0), 0);
        Check.due("P6 fault()", x.fault(), BlindSown.NONE);
    }

    private static void faults() {
        String[] fine = {"", "A", "D", "ABCD", "Ar", "Al", "Ab", "Af1", "Cw9", "Df9w1rlbAf5", "AAAA"};
        for (String text : fine) {
            Check.due("P7 fault of '" + text + "'", Check.faultOf(text), BlindSown.NONE);
        }
        String[] bad = {"f1", "w1", "r", "l", "b", "E", "a", "1", "@", "A1", "Ax", "AE", "Af0", "Aw0", "Afr", "Aff1",
            "Af", "Aw", "Af1f", "Af1w", "Af12", "ArAbx", "Af:", "Bf/", "A!", "Cf5~"};
        int[] at = {0, 0, 0, 0, 0, 0, 0, 0, 0, 1, 1, 1, 2, 2, 2, 2,
            2, 2, 4, 4, 3, 4, 2, 2, 1, 3};
        for (int i = 0; i < bad.length; i++) {
            Check.due("P7 fault of '" + bad[i] + "'", Check.faultOf(bad[i]), at[i]);
        }
        BlindSown x = new BlindSown();
        Check.tell(x, "A" + "r".repeat(38) + "f");
        Check.due("P7 the pad is full and more must come", x.fault(), 40);
        Check.due("P7 the pad is as it was", x.told(0), 40);
    }

    private static void walking() {
        int[] xs = {0, 1, 1, 1, 0, -1, -1, -1}, ys = {-1, -1, 0, 1, 1, 1, 0, -1};
        for (int way = 0; way < 8; way++) {
            BlindSown x = new BlindSown();
            x.set(2, 0, 27);
            x.set(2, 1, way);
            Check.due("P8 night()", Check.go(x, "Cf1w1f1"), 4);
            int step = xs[way] + 8 * ys[way];
            Check.due("P8 place by way " + way, x.about(2, 0), 27 + 3 * step);
            Check.due("P8 sown first", x.up(27 + step, 2), 1);
            Check.due("P8 walked over", x.up(27 + 2 * step, -1), 0);
            Check.due("P8 sown last", x.up(27 + 3 * step, 2), 1);
            Check.due("P8 not where it stood", x.up(27, -1), 0);
            Check.due("P8 walked", x.about(2, 6), 3);
            Check.due("P8 left", x.about(2, 3), 18);
        }
        BlindSown x = new BlindSown();
        x.set(0, 3, 2);
        x.set(0, 1, 4);
        Check.go(x, "Af5");
        Check.due("P8 no grain is left", x.about(0, 3), 0);
        Check.due("P8 grains that fell", x.told(10), 2);
        Check.due("P8 place", x.about(0, 0), 40);
        Check.due("P8 walked on", x.about(0, 6), 5);
        Check.go(x, "Aw9w3");
        Check.due("P8 out by w", x.about(0, 7), 7 + 3);
        Check.due("P8 walked to the edge", x.about(0, 6), 7);
    }

    private static void turning() {
        for (int told = 0; told < 5; told++) {
            for (int way = 0; way < 8; way++) {
                BlindSown x = new BlindSown();
                x.set(3, 4, told);
                x.set(3, 1, way);
                Check.go(x, "Dr");
                Check.due("P8 r", x.about(3, 1), (way + 1 + told - 2 + 8) % 8);
                x.set(3, 1, way);
                Check.go(x, "Dl");
                Check.due("P8 l", x.about(3, 1), (way - 1 + told - 2 + 8) % 8);
                Check.due("P8 a turn is no step", x.about(3, 6) + x.about(3, 7), 0);
            }
        }
    }

    private static void bellsHeard() {
        BlindSown x = new BlindSown();
        x.set(0, 0, 27);
        x.set(0, 1, 6);
        x.post(31);
        Check.go(x, "Ab");
        Check.due("P8 b: four off is not heard by 3", x.about(0, 1), 6);
        x.set(0, 5, 4);
        Check.go(x, "Ab");
        Check.due("P8 b: four off is heard by 4", x.about(0, 1), 2);
        x.post(24);
        Check.go(x, "Ab");
        Check.due("P8 b: the nearer one", x.about(0, 1), 6);
        x.post(51);
        Check.go(x, "Ab");
        Check.due("P8 b: of like ones the least cell", x.about(0, 1), 6);
        x.clear();
        x.post(51);
        x.post(24);
        Check.go(x, "Ab");
        Check.due("P8 b: the least cell, not the first post", x.about(0, 1), 6);
        x.post(27);
        x.set(0, 4, 4);
        x.set(0, 1, 5);
        Check.go(x, "Ab");
        Check.due("P8 b: it stands there", x.about(0, 1), 5);
        x.clear();
        Check.go(x, "Ab");
        Check.due("P8 b: no posts", x.about(0, 1), 5);
        x.post(26);
        x.set(0, 5, 0);
        Check.go(x, "Ab");
        Check.due("P8 b: ear 0", x.about(0, 1), 5);
    }

    private static void bellWays() {
        // From (3, 3): straight ahead, slanting, and in between, where 10 stands against 7.
        int[] post = {3, 59, 24, 31, 54, 0, 6, 48, 11, 5, 55, 4, 39};
        int[] way = {0, 4, 6, 2, 3, 7, 1, 5, 0, 1, 3, 0, 2};
        for (int i = 0; i < post.length; i++) {
            for (int told = 0; told < 5; told++) {
                BlindSown x = new BlindSown();
                x.set(0, 0, 27);
                x.set(0, 5, 9);
                x.set(0, 4, told);
                x.post(post[i]);
                Check.go(x, "Ab");
                Check.due("P8 b to " + post[i], x.about(0, 1), (way[i] + told - 2 + 8) % 8);
            }
        }
    }

    private static void nights() {
        BlindSown x = new BlindSown();
        Check.due("P8 an empty night", x.night(), 0);
        Check.due("P8 only letters", Check.go(x, "ABCDA"), 5);
        Check.tell(x, "Af");
        Check.due("P8 NO", x.night(), BlindSown.NO);
        Check.due("P8 the pad stays", x.told(0), 2);
        Check.due("P8 nothing is done", x.about(0, 7), 0);
        Check.tell(x, "3");
        Check.due("P8 now it goes", x.night(), 2);
        Check.due("P8 the pad is empty", x.told(0), 0);
        Check.due("P8 out at once", x.about(0, 7), 3);
        Check.tell(x, "r");
        Check.due("P8 nobody goes at first again", x.night(), BlindSown.NO);
        x.wipe();
        Check.go(x, "AlBrrCrr");
        Check.due("P8 A", x.about(0, 1), 7);
        Check.due("P8 B", x.about(1, 1), 2);
        Check.due("P8 C", x.about(2, 1), 2);
        Check.due("P8 D", x.about(3, 1), 0);
        Check.due("P8 two in one cell", Check.go(x, "Bf2Cf2"), 4);
        Check.due("P8 B's", x.up(2, 1), 1);
        Check.due("P8 C's", x.up(2, 2), 1);
        Check.due("P8 both", x.up(2, -1), 2);
    }

    private static void about() {
        BlindSown x = new BlindSown();
        Check.due("P9 about(-1, 0)", x.about(-1, 0), BlindSown.UNKNOWN);
        Check.due("P9 about(4, 9)", x.about(4, 9), BlindSown.UNKNOWN);
        Check.due("P9 about(0, -1)", x.about(0, -1), BlindSown.OUTSIDE);
        Check.due("P9 about(0, 8)", x.about(0, 8), BlindSown.OUTSIDE);
        x.set(1, 1, 2);
        Check.go(x, "Bf9");
        Check.due("P9 place", x.about(1, 0), 7);
        Check.due("P9 left", x.about(1, 3), 13);
        Check.due("P9 walked", x.about(1, 6), 7);
        Check.due("P9 out", x.about(1, 7), 2);
        Check.due("P9 another's", x.about(0, 6), 0);
    }
}
