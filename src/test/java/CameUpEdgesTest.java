import java.util.HashSet;
import java.util.Set;

/** Part 2 and promises 10 to 14, sentence by sentence: each test stands for the words ahead of it. */
public final class CameUpEdgesTest {
    private static final int NONE = BlindSown.NONE, NO = BlindSown.NO, STATE = BlindSown.STATE;
    private static final int OUTSIDE = BlindSown.OUTSIDE, UNKNOWN = BlindSown.UNKNOWN;

    public static void main(String[] args) {
        allGrainsAreSomewhere();
        outIsNotWalked();
        upInTheLastCell();
        upOfAllKinds();
        rowsAtFirst();
        rowsOfTheLastCell();
        strayedAnotherOrNone();
        bareNoneOfIt();
        bareEverywhere();
        guessedEachWrong();
        guessedSeveral();
        guessedAllOrNone();
        guessedInAllCells();
        guessedFromTheImage();
        guessedByThePosts();
        guessedImages();
        guessedFault();
        spiralTurns();
        spiralCells();
        spiralOfNothingElse();
        Check.end();
    }

    private static void stand(BlindSown x, int sower, int cell, int way) {
        x.set(sower, 0, cell);
        x.set(sower, 1, way);
    }

    /** "All GRAINS that ever were are in CELLS or BAGS; told GRAINS of a BAG are new ones". */
    private static void allGrainsAreSomewhere() {
        BlindSown x = new BlindSown();
        String[] nights = {"Arf9rf9rf9rf9rf9", "Brrrf9Crrrf5Drrf2", "Aw9f9Bf9Dlf9", "", "Cf9rrrrf9", "Crrrrf9f9"};
        for (String night : nights) {
            Check.go(x, night);
            Check.due("in all behind " + night, x.told(10) + x.told(11), 80);
        }
        Check.due("C's bag is empty", x.about(2, 3), 0);
        int inCells = x.told(10);
        x.swap(0, 2);
        Check.due("swapped: as many", x.told(10) + x.told(11), 80);
        x.set(2, 3, 99);
        Check.due("cells keep theirs", x.told(10), inCells);
        int bags = x.about(0, 3) + x.about(1, 3) + 99 + x.about(3, 3);
        Check.due("told ones are new", x.told(11), bags);
        for (int s = 0; s < 4; s++) {
            x.set(s, 3, 99);
        }
        Check.due("the most in bags", x.told(11), 396);
        for (int s = 0; s < 4; s++) {
            x.set(s, 3, 0);
        }
        Check.due("the fewest in bags", x.told(11), 0);
    }

    /** "WALKED: steps that were done by a SOWER. OUT: those that were not". */
    private static void outIsNotWalked() {
        BlindSown x = new BlindSown();
        for (int n = 1; n <= 9; n++) {
            Check.go(x, "Bw" + n);
            Check.due("walked", x.about(1, 6), 0);
            Check.due("out", x.about(1, 7), n * (n + 1) / 2);
        }
        stand(x, 1, 6, 2);
        Check.go(x, "Bf9");
        Check.due("one was done", x.about(1, 6), 1);
        Check.due("eight were not", x.about(1, 7), 45 + 8);
        Check.due("of nobody else", x.about(0, 6) + x.about(0, 7), 0);
        x.set(1, 0, 20);
        Check.due("being put somewhere is no step", x.about(1, 6), 1);
    }

    /** "CAME UP: GRAINS of a KIND in a CELL": in the first and the last, of the first and the last. */
    private static void upInTheLastCell() {
        BlindSown x = new BlindSown();
        stand(x, 3, 54, 3);
        stand(x, 0, 9, 7);
        Check.go(x, "Df1Af1");
        Check.due("up(63, 3)", x.up(63, 3), 1);
        Check.due("up(0, 0)", x.up(0, 0), 1);
        Check.due("up(63, 0)", x.up(63, 0), 0);
        Check.due("up(0, 3)", x.up(0, 3), 0);
        Check.due("up(62, -1)", x.up(62, -1), 0);
        Check.due("up(1, -1)", x.up(1, -1), 0);
        Check.due("up(63, 4)", x.up(63, 4), UNKNOWN);
        Check.due("up(64, 3)", x.up(64, 3), OUTSIDE);
        Check.due("up(-1, 0)", x.up(-1, 0), OUTSIDE);
    }

    /** "of all KINDS (kind = -1)". */
    private static void upOfAllKinds() {
        BlindSown x = new BlindSown();
        for (int s = 0; s < 4; s++) {
            stand(x, s, 9, 3);
        }
        Check.go(x, "Af1Bf1Cf1Df1");
        Check.due("one of each", x.up(18, -1), 4);
        for (int kind = 0; kind < 4; kind++) {
            Check.due("of " + kind, x.up(18, kind), 1);
        }
        Check.due("up(18, -2)", x.up(18, -2), UNKNOWN);
    }

    /** "TOLD ROWS: for each CELL which KIND it should have (NONE at first)". */
    private static void rowsAtFirst() {
        BlindSown x = new BlindSown();
        for (int cell = 0; cell < 64; cell++) {
            Check.due("row(" + cell + ", 3)", x.row(cell, 3), NONE);
        }
        for (int cell = 0; cell < 64; cell++) {
            Check.due("row(" + cell + ", -1)", x.row(cell, -1), 3);
            Check.due("none again", x.row(cell, -1), NONE);
        }
    }

    private static void rowsOfTheLastCell() {
        BlindSown x = new BlindSown();
        Check.due("row(63, 3)", x.row(63, 3), NONE);
        Check.due("row(0, 0)", x.row(0, 0), NONE);
        Check.due("row(64, 0)", x.row(64, 0), OUTSIDE);
        Check.due("row(-1, 0)", x.row(-1, 0), OUTSIDE);
        Check.due("row(63, 4)", x.row(63, 4), UNKNOWN);
        Check.due("row(63, -2)", x.row(63, -2), UNKNOWN);
        Check.due("63 is as it was", x.row(63, 3), 3);
        Check.due("0 is as it was", x.row(0, 0), 0);
        Check.due("62 was not told", x.row(62, 1), NONE);
    }

    /** "STRAYED: GRAINS of a KIND in CELLS that should have another one or none". */
    private static void strayedAnotherOrNone() {
        BlindSown x = new BlindSown();
        Check.due("nothing strayed", x.strayed(-1, 0), 0);
        stand(x, 3, 62, 2);
        stand(x, 0, 1, 6);
        Check.go(x, "Df1Af1");
        Check.due("none told: 3", x.strayed(3, 0), 1);
        Check.due("none told: 0", x.strayed(0, 0), 1);
        Check.due("none told: all", x.strayed(-1, 0), 2);
        x.row(63, 3);
        x.row(0, 0);
        Check.due("the right ones: 3", x.strayed(3, 0), 0);
        Check.due("the right ones: 0", x.strayed(0, 0), 0);
        Check.due("the right ones: all", x.strayed(-1, 0), 0);
        x.row(63, 0);
        x.row(0, 3);
        Check.due("others: 3", x.strayed(3, 0), 1);
        Check.due("others: 0", x.strayed(0, 0), 1);
        Check.due("others: 1", x.strayed(1, 0), 0);
        Check.due("others: all", x.strayed(-1, 0), 2);
        for (int i = 0; i < 3; i++) {
            stand(x, 3, 62, 2);
            Check.go(x, "Df1");
        }
        Check.due("each grain counts", x.strayed(3, 0), 4);
    }

    /** "BARE: CELLS that should have a KIND and have none of it". */
    private static void bareNoneOfIt() {
        BlindSown x = new BlindSown();
        x.row(63, 0);
        x.row(0, 0);
        x.row(1, 3);
        Check.due("nothing sown: 0", x.strayed(0, 1), 2);
        Check.due("nothing sown: 3", x.strayed(3, 1), 1);
        Check.due("nothing sown: 1", x.strayed(1, 1), 0);
        Check.due("nothing sown: all", x.strayed(-1, 1), 3);
        stand(x, 3, 62, 2);
        Check.go(x, "Df1");
        Check.due("another KIND in it: still bare", x.strayed(0, 1), 2);
        stand(x, 0, 62, 2);
        Check.go(x, "Af1");
        Check.due("its own KIND beside: not bare", x.strayed(0, 1), 1);
        stand(x, 0, 62, 2);
        Check.go(x, "Af1");
        Check.due("one or two: not bare", x.strayed(0, 1), 1);
        x.row(0, -1);
        Check.due("should have none: not bare", x.strayed(0, 1), 0);
        Check.due("all", x.strayed(-1, 1), 1);
    }

    private static void bareEverywhere() {
        BlindSown x = new BlindSown();
        for (int cell = 0; cell < 64; cell++) {
            x.row(cell, cell % 4);
        }
        Check.due("all", x.strayed(-1, 1), 64);
        for (int kind = 0; kind < 4; kind++) {
            Check.due("of " + kind, x.strayed(kind, 1), 16);
        }
        Check.due("strayed(3, 2)", x.strayed(3, 2), OUTSIDE);
        Check.due("strayed(3, -1)", x.strayed(3, -1), OUTSIDE);
        Check.due("strayed(4, 1)", x.strayed(4, 1), UNKNOWN);
        Check.due("strayed(-2, 1)", x.strayed(-2, 1), UNKNOWN);
    }

    /** "by which WRONGS (bits 0 to 4 for -2 to 2)". */
    private static void guessedEachWrong() {
        for (int wrong = 0; wrong < 5; wrong++) {
            for (int s = 0; s < 4; s++) {
                String night = (char) ('A' + s) + "lf1";
                BlindSown x = new BlindSown();
                stand(x, s, 27, 6);
                x.set(s, 4, wrong);
                x.image(s % 2);
                Check.go(x, night);
                Check.tell(x, night);
                Check.due("by " + (wrong - 2) + " of " + s, x.guessed(s, s % 2), 1 << wrong);
            }
        }
    }

    /** Four turns by an odd eighth lead right round by half, by an even one not at all. */
    private static void guessedSeveral() {
        for (int wrong = 0; wrong < 5; wrong++) {
            BlindSown x = new BlindSown();
            stand(x, 1, 27, 0);
            x.image(0);
            x.set(1, 4, wrong);
            Check.go(x, "Brrrrf3");
            Check.tell(x, "Brrrrf3");
            Check.due("four turns by " + (wrong - 2), x.guessed(1, 0), wrong % 2 == 0 ? 21 : 10);
            Check.write(x, "Brrrrrrrrf3");
            Check.due("eight turns lead back", x.guessed(1, 0), wrong % 2 == 0 ? 0 : 31);
        }
    }

    private static void guessedAllOrNone() {
        BlindSown x = new BlindSown();
        x.image(0);
        Check.due("no signs, nothing there", x.guessed(0, 0), 31);
        Check.write(x, "Arlb");
        Check.due("turns sow nothing", x.guessed(0, 0), 31);
        Check.write(x, "Aw9rw9");
        Check.due("nor does walking", x.guessed(0, 0), 31);
        Check.write(x, "Bf1");
        Check.due("a step that leads out", x.guessed(1, 0), 31);
        Check.write(x, "Brrf1");
        Check.due("WRONG 0, 1 lead on; the others out", x.guessed(1, 0), 0b10011);
        Check.write(x, "Brrrrf1");
        Check.due("WRONG -1, 1: as at first; the others go down", x.guessed(1, 0), 0b01010);
        Check.write(x, "Crrf1");
        x.set(2, 3, 0);
        Check.due("the bag is the image's", x.guessed(2, 0), 0b10011);
        x.image(0);
        Check.due("an empty bag sows nothing", x.guessed(2, 0), 31);
        stand(x, 3, 27, 0);
        Check.go(x, "Df1");
        Check.due("no signs, but something is there now", x.guessed(3, 0), 0);
        x.image(0);
        Check.due("the same in the image", x.guessed(3, 0), 31);
    }

    /** "leaves in all CELLS just what is there now": of each KIND, to the last CELL, as many. */
    private static void guessedInAllCells() {
        BlindSown x = new BlindSown();
        stand(x, 3, 54, 3);
        x.image(0);
        Check.go(x, "Df1");
        Check.write(x, "Df1");
        Check.due("63 has a grain of 3", x.guessed(0, 0), 31);
        x.restore(0);
        x.set(3, 2, 2);
        Check.go(x, "Df1");
        Check.write(x, "Df1");
        Check.due("63 has a grain of 2", x.guessed(0, 0), 0);
        x.restore(0);
        Check.go(x, "Df1Dl");
        stand(x, 3, 54, 3);
        Check.go(x, "Df1");
        Check.write(x, "Df1");
        Check.due("63 has two grains", x.guessed(0, 0), 0);
        BlindSown y = new BlindSown();
        stand(y, 0, 9, 7);
        y.image(1);
        Check.write(y, "Af1");
        Check.due("0 has no grain", y.guessed(1, 1), 0);
        Check.go(y, "Af1");
        Check.write(y, "Af1");
        Check.due("0 has one", y.guessed(1, 1), 31);
    }

    /** "DONE from what was kept in an IMAGE but with that WRONG": the others go by theirs. */
    private static void guessedFromTheImage() {
        BlindSown x = new BlindSown();
        stand(x, 0, 27, 0);
        stand(x, 1, 36, 0);
        x.set(1, 4, 4);
        x.image(0);
        Check.go(x, "Arf1Brf1");
        x.set(1, 4, 0);
        x.set(0, 4, 0);
        Check.write(x, "Arf1Brf1");
        Check.due("A's, by B's in the image", x.guessed(0, 0), 4);
        Check.due("B's, by A's in the image", x.guessed(1, 0), 16);
        Check.due("C's: it is all one", x.guessed(2, 0), 31);
        x.image(0);
        Check.due("kept anew: sown twice", x.guessed(2, 0), 0);
        Check.due("the pad stays", x.told(0), 8);
        Check.due("A's WRONG stays", x.about(0, 4), 0);
        Check.due("the image's, too", x.restore(0), 1);
        Check.due("as it was kept", x.about(0, 4), 0);
        Check.due("B's as well", x.about(1, 4), 0);
    }

    /** The POSTS, too, are those of the IMAGE, not those there are now. */
    private static void guessedByThePosts() {
        BlindSown x = new BlindSown();
        stand(x, 2, 27, 0);
        x.post(29);
        x.image(0);
        x.clear();
        x.post(25);
        x.image(1);
        Check.go(x, "Cbf1");
        Check.write(x, "Cbf1");
        Check.due("to 25", x.guessed(2, 1), 4);
        Check.due("to 29", x.guessed(2, 0), 0);
        x.clear();
        x.post(29);
        Check.due("to 25, whatever there is now", x.guessed(2, 1), 4);
        Check.due("to 29, whatever there is now", x.guessed(2, 0), 0);
    }

    /** "OUTSIDE: the IMAGE; STATE: it was not kept". */
    private static void guessedImages() {
        BlindSown x = new BlindSown();
        Check.due("guessed(0, -1)", x.guessed(0, -1), OUTSIDE);
        Check.due("guessed(0, 2)", x.guessed(0, 2), OUTSIDE);
        Check.due("guessed(0, 0)", x.guessed(0, 0), STATE);
        Check.due("guessed(3, 1)", x.guessed(3, 1), STATE);
        x.image(1);
        Check.due("guessed(0, 0) still", x.guessed(0, 0), STATE);
        Check.due("guessed(3, 1) now", x.guessed(3, 1), 31);
        Check.due("guessed(-1, 1)", x.guessed(-1, 1), UNKNOWN);
        Check.due("guessed(4, 1)", x.guessed(4, 1), UNKNOWN);
    }

    /** "NO: there is a FAULT", behind all that may be wrong with the numbers. */
    private static void guessedFault() {
        BlindSown x = new BlindSown();
        x.image(0);
        Check.tell(x, "Af");
        Check.due("guessed(0, 0)", x.guessed(0, 0), NO);
        Check.due("guessed(0, 1)", x.guessed(0, 1), STATE);
        Check.due("guessed(0, 2)", x.guessed(0, 2), OUTSIDE);
        Check.due("guessed(4, 2)", x.guessed(4, 2), UNKNOWN);
        Check.write(x, "r");
        Check.due("nobody goes", x.guessed(0, 0), NO);
    }

    /** "in how many turns they face as at first (NONE: WRONG -1, they do not turn)". */
    private static void spiralTurns() {
        BlindSown x = new BlindSown();
        int[] turns = {8, NONE, 8, 4, 8};
        for (int wrong = 0; wrong < 5; wrong++) {
            Check.due("f 1", x.spiral(1, wrong, 0), turns[wrong]);
            Check.due("f 9", x.spiral(9, wrong, 0), turns[wrong]);
        }
        Check.due("no turn: no CELLS either", x.spiral(1, 1, 1), NONE);
        Check.due("f 0", x.spiral(0, 2, 0), OUTSIDE);
        Check.due("f 10", x.spiral(10, 2, 0), OUTSIDE);
        Check.due("f 0, no turn", x.spiral(0, 1, 0), OUTSIDE);
        Check.due("WRONG -3", x.spiral(1, -1, 0), OUTSIDE);
        Check.due("WRONG 3", x.spiral(1, 5, 0), OUTSIDE);
        Check.due("what -1", x.spiral(1, 0, -1), OUTSIDE);
        Check.due("what 2", x.spiral(1, 4, 2), OUTSIDE);
        Check.due("what 2, no turn", x.spiral(1, 1, 2), OUTSIDE);
    }

    /** "in how many CELLS of an endless field they have been then (each counted once)". */
    private static void spiralCells() {
        BlindSown x = new BlindSown();
        int[] xs = {0, 1, 1, 1, 0, -1, -1, -1};
        for (int f = 1; f <= 9; f++) {
            for (int wrong : new int[] {0, 2, 3, 4}) {
                Set<Long> cells = new HashSet<>();
                long at = 0;
                cells.add(at);
                for (int way = 0, turn = 0; turn == 0 || way != 0; turn++) {
                    for (int i = 0; i < f; i++) {
                        at += xs[way] + 1000L * xs[(way + 6) % 8];
                        cells.add(at);
                    }
                    way = Math.floorMod(way + wrong - 1, 8);
                }
                Check.due("f " + f + " by " + (wrong - 2), x.spiral(f, wrong, 1), cells.size());
            }
        }
        Check.due("the least ring", x.spiral(1, 3, 1), 4);
        Check.due("the longest, wider than THE FIELD", x.spiral(9, 2, 1), 72);
        Check.due("crossed on its way", x.spiral(9, 4, 1), 52);
    }

    /** It is asked of no SOWER of THE FIELD, and leaves them be. */
    private static void spiralOfNothingElse() {
        BlindSown x = new BlindSown();
        x.set(0, 4, 4);
        x.set(0, 1, 3);
        Check.due("turns", x.spiral(2, 3, 0), 4);
        Check.due("cells", x.spiral(2, 3, 1), 8);
        Check.due("again", x.spiral(2, 3, 1), 8);
        Check.due("place", x.about(0, 0), 0);
        Check.due("WAY", x.about(0, 1), 3);
        Check.due("WALKED", x.about(0, 6), 0);
        Check.due("WRONG", x.about(0, 4), 4);
    }
}
