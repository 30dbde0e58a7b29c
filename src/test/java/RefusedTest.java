import java.util.ArrayList;
import java.util.Arrays;
import java.util.List;

/**
 * The sentences of 'Terms': what refused calls answer, the first that fits of several, and that
 * they change nothing. Every refusal is done on three objects, and what can be seen of each is
 * compared with one that was not asked.
 */
public final class RefusedTest {
    private static final int UNKNOWN = -1, OUTSIDE = -2, STATE = -3, FULL = -4, NO = -5;
    private static final int LOW = Integer.MIN_VALUE, HIGH = Integer.MAX_VALUE;

    /** Any call on an object. */
    private interface Deed {
        int on(BlindSown x);
    }

    /** A refused call with its answer on a new object, on one with all in use, and on one with a FAULT. */
    private record Refusal(String call, Deed deed, int[] due) {
    }

    private static final List<Refusal> ALL = new ArrayList<>();

    public static void main(String[] args) {
        sowersAndNights();
        cameUp();
        bellsThievesBags();
        bordersShares();
        for (int state = 0; state < 3; state++) {
            for (Refusal r : ALL) {
                if (r.due[state] < 0) {
                    refusedThere(r, state);
                }
            }
        }
        lastOfAllCalls();
        Check.end();
    }

    /** Refused alike in every state. */
    private static void always(int due, String call, Deed deed) {
        ALL.add(new Refusal(call, deed, new int[] {due, due, due}));
    }

    /** Refused by what is there: new, in use, with a FAULT; 1 where it is not refused. */
    private static void there(int onNew, int inUse, int withFault, String call, Deed deed) {
        ALL.add(new Refusal(call, deed, new int[] {onNew, inUse, withFault}));
    }

    private static void sowersAndNights() {
        int[] most = {63, 7, 3, 99, 4, 9};
        for (int s : new int[] {LOW, -2, -1, 4, 5, HIGH}) {
            for (int what : new int[] {-1, 0, 1, 2, 3, 4, 5, 6, 7, 8}) {
                always(UNKNOWN, "P2 set(" + s + ", " + what + ", 1)", x -> x.set(s, what, 1));
                always(UNKNOWN, "P2 set(" + s + ", " + what + ", 100)", x -> x.set(s, what, 100));
                always(UNKNOWN, "P9 about(" + s + ", " + what + ")", x -> x.about(s, what));
            }
        }
        for (int s = 0; s < 4; s++) {
            int sower = s;
            for (int what : new int[] {LOW, -1, 6, 7, HIGH}) {
                always(OUTSIDE, "P2 set(" + s + ", " + what + ", 0)", x -> x.set(sower, what, 0));
            }
            for (int what : new int[] {LOW, -1, 8, HIGH}) {
                always(OUTSIDE, "P9 about(" + s + ", " + what + ")", x -> x.about(sower, what));
            }
            for (int w = 0; w < 6; w++) {
                int what = w;
                for (int v : new int[] {LOW, -1, most[w] + 1, HIGH}) {
                    always(what == 2 ? UNKNOWN : OUTSIDE, "P2 set(" + s + ", " + w + ", " + v + ")",
                        x -> x.set(sower, what, v));
                }
            }
        }
        for (int cell : new int[] {LOW, -1, 64, HIGH}) {
            always(OUTSIDE, "P3 post(" + cell + ")", x -> x.post(cell));
        }
        for (int cell : new int[] {63, 0, 9, 30}) {
            there(1, NO, NO, "P3 post(" + cell + "): one stands there", x -> x.post(cell));
        }
        there(1, FULL, FULL, "P3 post(31): a fifth", x -> x.post(31));
        for (int sign : new int[] {LOW, -1, 0, 32, 127, 128, 65 + 256, HIGH}) {
            always(OUTSIDE, "P5 say(" + sign + ")", x -> x.say(sign));
        }
        there(1, FULL, 1, "P5 say('A')", x -> x.say('A'));
        there(1, 1, NO, "P8 night()", x -> x.night());
    }

    private static void cameUp() {
        for (int kind : new int[] {LOW, -6, -2, 4, 5, HIGH}) {
            for (int n : new int[] {-1, 0, 1, 63, 64}) {
                always(UNKNOWN, "P10 up(" + n + ", " + kind + ")", x -> x.up(n, kind));
                always(UNKNOWN, "P11 row(" + n + ", " + kind + ")", x -> x.row(n, kind));
                always(UNKNOWN, "P12 strayed(" + kind + ", " + n + ")", x -> x.strayed(kind, n));
                always(UNKNOWN, "P20 over(" + kind + ", " + n + ")", x -> x.over(kind, n));
                always(UNKNOWN, "P21 fruit(" + kind + ", " + n + ")", x -> x.fruit(kind, n));
            }
        }
        for (int k = -1; k < 4; k++) {
            int kind = k;
            for (int cell : new int[] {LOW, -1, 64, HIGH}) {
                always(OUTSIDE, "P10 up(" + cell + ", " + k + ")", x -> x.up(cell, kind));
                always(OUTSIDE, "P11 row(" + cell + ", " + k + ")", x -> x.row(cell, kind));
            }
            for (int what : new int[] {LOW, -1, 2, HIGH}) {
                always(OUTSIDE, "P12 strayed(" + k + ", " + what + ")", x -> x.strayed(kind, what));
            }
        }
        for (int s : new int[] {LOW, -1, 4, HIGH}) {
            for (int image : new int[] {-1, 0, 1, 2}) {
                always(UNKNOWN, "P13 guessed(" + s + ", " + image + ")", x -> x.guessed(s, image));
            }
        }
        for (int s = 0; s < 4; s++) {
            int sower = s;
            for (int image : new int[] {LOW, -1, 2, HIGH}) {
                always(OUTSIDE, "P13 guessed(" + s + ", " + image + ")", x -> x.guessed(sower, image));
            }
            there(STATE, 1, NO, "P13 guessed(" + s + ", 0)", x -> x.guessed(sower, 0));
            there(STATE, STATE, STATE, "P13 guessed(" + s + ", 1)", x -> x.guessed(sower, 1));
        }
        for (int[] a : new int[][] {{0, 2, 0}, {10, 2, 1}, {LOW, 2, 0}, {HIGH, 2, 0}, {1, -1, 0}, {9, 5, 1},
            {1, LOW, 0}, {1, HIGH, 0}, {1, 2, -1}, {9, 2, 2}, {1, 2, LOW}, {1, 2, HIGH}, {0, 1, 0}, {3, 1, 2}}) {
            always(OUTSIDE, "P14 spiral" + Arrays.toString(a), x -> x.spiral(a[0], a[1], a[2]));
        }
    }

    private static void bellsThievesBags() {
        for (int n : new int[] {LOW, -1, 3, HIGH}) {
            always(OUTSIDE, "P15 bells(" + n + ", 0)", x -> x.bells(n, 0));
            always(OUTSIDE, "P15 bells(2, " + n + ")", x -> x.bells(2, n));
            always(OUTSIDE, "P16 thief(0, 0, " + n + ")", x -> x.thief(0, 0, n));
            always(OUTSIDE, "P17 safest(" + n + ")", x -> x.safest(n));
        }
        for (int p = 0; p < 3; p++) {
            for (int w = 0; w < 3; w++) {
                int posts = p, what = w;
                there(1, 1, NO, "P15 bells(" + p + ", " + w + ")", x -> x.bells(posts, what));
            }
        }
        for (int cell : new int[] {LOW, -1, 64, HIGH}) {
            always(OUTSIDE, "P16 thief(" + cell + ", 0, 0)", x -> x.thief(cell, 0, 0));
        }
        for (int way : new int[] {LOW, -1, 8, HIGH}) {
            always(OUTSIDE, "P16 thief(0, " + way + ", 0)", x -> x.thief(0, way, 0));
        }
        for (int s = -1; s < 5; s++) {
            for (int o = -1; o < 5; o++) {
                int one = s, other = o;
                if (s == o || s < 0 || s > 3 || o < 0 || o > 3) {
                    always(UNKNOWN, "P18 swap(" + s + ", " + o + ")", x -> x.swap(one, other));
                    always(UNKNOWN, "P19 found(" + s + ", " + o + ")", x -> x.found(one, other));
                } else {
                    there(1, 1, NO, "P19 found(" + s + ", " + o + ")", x -> x.found(one, other));
                }
            }
        }
        for (int s : new int[] {LOW, HIGH}) {
            always(UNKNOWN, "P18 swap(" + s + ", 0)", x -> x.swap(s, 0));
            always(UNKNOWN, "P18 swap(0, " + s + ")", x -> x.swap(0, s));
            always(UNKNOWN, "P18 swap(" + s + ", " + s + ")", x -> x.swap(s, s));
            always(UNKNOWN, "P19 found(" + s + ", 0)", x -> x.found(s, 0));
            always(UNKNOWN, "P19 found(0, " + s + ")", x -> x.found(0, s));
        }
    }

    private static void bordersShares() {
        for (int b : new int[] {LOW, -1, 8, HIGH}) {
            for (int k = -1; k < 4; k++) {
                int kind = k;
                always(OUTSIDE, "P20 over(" + k + ", " + b + ")", x -> x.over(kind, b));
            }
            for (int s = 0; s < 4; s++) {
                int sower = s;
                always(OUTSIDE, "P23 facing(" + s + ", " + b + ")", x -> x.facing(sower, b));
            }
        }
        for (int v : new int[] {LOW, -1, 0, 10, HIGH}) {
            for (int k = 0; k < 4; k++) {
                int kind = k;
                always(OUTSIDE, "P21 fruit(" + k + ", " + v + ")", x -> x.fruit(kind, v));
            }
        }
        always(UNKNOWN, "P21 fruit(-1, 5): there is no KIND for all", x -> x.fruit(-1, 5));
        always(UNKNOWN, "P21 fruit(-1, 0)", x -> x.fruit(-1, 0));
        for (int s : new int[] {LOW, -2, 4, HIGH}) {
            always(UNKNOWN, "P22 share(" + s + ")", x -> x.share(s));
            always(UNKNOWN, "P24 rest(" + s + ")", x -> x.rest(s));
            always(UNKNOWN, "P23 facing(" + s + ", 0)", x -> x.facing(s, 0));
            always(UNKNOWN, "P23 facing(" + s + ", 8)", x -> x.facing(s, 8));
        }
        always(UNKNOWN, "P23 facing(-1, 0)", x -> x.facing(-1, 0));
        always(UNKNOWN, "P24 rest(-1)", x -> x.rest(-1));
        for (int n : new int[] {LOW, -1, 2, HIGH}) {
            always(OUTSIDE, "P25 image(" + n + ")", x -> x.image(n));
            always(OUTSIDE, "P26 restore(" + n + ")", x -> x.restore(n));
        }
        there(STATE, 1, 1, "P26 restore(0)", x -> x.restore(0));
        there(STATE, STATE, STATE, "P26 restore(1)", x -> x.restore(1));
        for (int what : new int[] {LOW, -1, 12, HIGH}) {
            always(OUTSIDE, "P27 told(" + what + ")", x -> x.told(what));
        }
    }

    // ---- objects to be refused by

    private static BlindSown made(int state) {
        BlindSown x = new BlindSown();
        if (state > 0) {
            putInUse(x);
            Check.tell(x, state == 1 ? "AbrCf3lf9DlBw1f2Cbf2Drf9Dbf5Brf4CrbrAlf7" : "Abf2Cf");
        }
        return x;
    }

    /** Posts, rows, grains, bags and one image, no two of them alike. */
    private static void putInUse(BlindSown x) {
        int[][] facts = {{27, 3, 2, 50, 0, 9}, {6, 4, 1, 30, 1, 2}, {40, 1, 0, 5, 3, 0}, {63, 7, 3, 99, 4, 5}};
        for (int s = 0; s < 4; s++) {
            for (int what = 0; what < 6; what++) {
                x.set(s, what, facts[s][what]);
            }
        }
        for (int kind = 0; kind < 4; kind++) {
            x.fruit(kind, 2 + kind);
        }
        x.post(63);
        x.post(0);
        x.post(9);
        x.row(28, 2);
        x.row(36, 3);
        x.row(54, 3);
        Check.go(x, "Af2Bf6Dw1f3");
        x.image(0);
        x.post(30);
        x.row(62, 0);
        x.row(63, 1);
        x.fruit(3, 9);
        Check.go(x, "Cf4Dw2Arf1");
    }

    // ---- what can be seen of an object

    private static void refusedThere(Refusal r, int state) {
        for (int view = 0; view < 4; view++) {
            BlindSown asked = made(state), other = made(state);
            String call = r.call + ", object " + state;
            Check.due(call, r.deed.on(asked), r.due[state]);
            Check.due(call + ", again", r.deed.on(asked), r.due[state]);
            Check.holds(call + " changes nothing, view " + view, seen(asked, view).equals(seen(other, view)));
        }
    }

    /** All that is there now, or behind the night, or in an image. */
    private static List<Integer> seen(BlindSown x, int view) {
        List<Integer> all = new ArrayList<>();
        if (view == 1) {
            all.add(x.say('3'));
            all.add(x.night());
            all.add(x.say('r'));
            all.add(x.fault());
        } else if (view > 1) {
            all.add(x.restore(view - 2));
        }
        for (int what = 0; what < 12; what++) {
            all.add(x.told(what));
        }
        all.add(x.fault());
        for (int s = 0; s < 4; s++) {
            for (int what = 0; what < 8; what++) {
                all.add(x.about(s, what));
            }
        }
        for (int cell = 0; cell < 64; cell++) {
            for (int kind = 0; kind < 4; kind++) {
                all.add(x.up(cell, kind));
            }
            all.add(x.row(cell, -1));
        }
        return all;
    }

    /** "An object is used for at most 512 calls": the last of them, too, is answered. */
    private static void lastOfAllCalls() {
        BlindSown x = new BlindSown();
        for (int i = 0; i < 127; i++) {
            Check.due("say", x.say('A'), 1);
            Check.due("wipe", x.wipe(), 1);
            Check.due("post", x.post(i % 64), 1);
            Check.due("clear", x.clear(), 1);
        }
        Check.due("call 509", x.say('B'), 1);
        Check.due("call 510", x.say('f'), 2);
        Check.due("call 511", x.say('2'), 3);
        Check.due("call 512", x.night(), 2);
    }
}
