/** Promises 10 to 14: what came up, told rows, guesses, spirals. */
public final class CameUpTest {
    public static void main(String[] args) {
        up();
        row();
        strayed();
        bare();
        guessed();
        guessedByImage();
        guessRefused();
        spiral();
        Check.end();
    }

    private static void up() {
        BlindSown x = new BlindSown();
        x.set(0, 1, 2);
        x.set(3, 1, 2);
        Check.go(x, "Af3Df2");
        Check.due("P10 up(1, 0)", x.up(1, 0), 1);
        Check.due("P10 up(1, 3)", x.up(1, 3), 1);
        Check.due("P10 up(1, 1)", x.up(1, 1), 0);
        Check.due("P10 up(1, -1)", x.up(1, -1), 2);
        Check.due("P10 up(3, -1)", x.up(3, -1), 1);
        Check.due("P10 up(0, -2)", x.up(0, -2), BlindSown.UNKNOWN);
        Check.due("P10 up(0, 4)", x.up(0, 4), BlindSown.UNKNOWN);
        Check.due("P10 up(-1, 0)", x.up(-1, 0), BlindSown.OUTSIDE);
        Check.due("P10 up(64, -1)", x.up(64, -1), BlindSown.OUTSIDE);
        Check.due("P10 UNKNOWN comes first", x.up(64, 4), BlindSown.UNKNOWN);
    }

    private static void row() {
        BlindSown x = new BlindSown();
        Check.due("P11 row(63, 0)", x.row(63, 0), BlindSown.NONE);
        Check.due("P11 row(63, 3)", x.row(63, 3), 0);
        Check.due("P11 row(63, -1)", x.row(63, -1), 3);
        Check.due("P11 row(63, 2)", x.row(63, 2), BlindSown.NONE);
        Check.due("P11 row(0, 4)", x.row(0, 4), BlindSown.UNKNOWN);
        Check.due("P11 row(0, -6)", x.row(0, -6), BlindSown.UNKNOWN);
        Check.due("P11 row(-1, 0)", x.row(-1, 0), BlindSown.OUTSIDE);
        Check.due("P11 row(64, 0)", x.row(64, 0), BlindSown.OUTSIDE);
        Check.due("P11 UNKNOWN comes first", x.row(64, 4), BlindSown.UNKNOWN);
        Check.due("P11 row(0, 1)", x.row(0, 1), BlindSown.NONE);
    }

    private static void strayed() {
        BlindSown x = new BlindSown();
        x.set(0, 1, 2);
        x.set(1, 1, 2);
        Check.go(x, "Af4Bf2");
        Check.due("P12 none told: all strayed", x.strayed(-1, 0), 6);
        x.row(1, 0);
        x.row(2, 1);
        x.row(3, 2);
        Check.due("P12 strayed of 0", x.strayed(0, 0), 3);
        Check.due("P12 strayed of 1", x.strayed(1, 0), 1);
        Check.due("P12 strayed of 2", x.strayed(2, 0), 0);
        Check.due("P12 strayed of all", x.strayed(-1, 0), 4);
        Check.due("P12 strayed(4, 0)", x.strayed(4, 0), BlindSown.UNKNOWN);
        Check.due("P12 strayed(-2, 9)", x.strayed(-2, 9), BlindSown.UNKNOWN);
        Check.due("P12 strayed(0, 2)", x.strayed(0, 2), BlindSown.OUTSIDE);
        Check.due("P12 strayed(-1, -1)", x.strayed(-1, -1), BlindSown.OUTSIDE);
    }

    private static void bare() {
        BlindSown x = new BlindSown();
        Check.due("P12 nothing is told", x.strayed(-1, 1), 0);
        x.set(0, 1, 2);
        Check.go(x, "Af3");
        x.row(1, 0);
        x.row(2, 1);
        x.row(3, 1);
        x.row(9, 0);
        Check.due("P12 bare of 0", x.strayed(0, 1), 1);
        Check.due("P12 bare of 1", x.strayed(1, 1), 2);
        Check.due("P12 bare of 3", x.strayed(3, 1), 0);
        Check.due("P12 bare of all", x.strayed(-1, 1), 3);
    }

    private static void guessed() {
        for (int told = 0; told < 5; told++) {
            BlindSown x = new BlindSown();
            x.set(0, 0, 27);
            x.image(0);
            x.set(0, 4, told);
            Check.go(x, "Arf2");
            Check.tell(x, "Arf2");
            Check.due("P13 the WRONG that it was", x.guessed(0, 0), 1 << told);
            Check.due("P13 another sower", x.guessed(1, 0), told == 2 ? 31 : 0);
            Check.due("P13 the pad stays", x.told(0), 4);
            Check.due("P13 nothing is done", x.told(10), 2);
            Check.due("P13 WRONG stays", x.about(0, 4), told);
        }
        BlindSown x = new BlindSown();
        x.image(1);
        Check.due("P13 nothing said, nothing there", x.guessed(2, 1), 31);
        x.set(2, 0, 27);
        x.image(1);
        Check.go(x, "Crf1");
        Check.tell(x, "Crf1llf1");
        Check.due("P13 more than is there", x.guessed(2, 1), 0);
    }

    private static void guessedByImage() {
        BlindSown x = new BlindSown();
        x.set(1, 0, 27);
        x.post(30);
        x.image(0);
        Check.go(x, "Bbf1");
        x.clear();
        x.set(1, 0, 0);
        x.set(1, 5, 0);
        x.set(1, 2, 3);
        Check.tell(x, "Bbf1");
        Check.due("P13 posts, places, ears, bags of the image", x.guessed(1, 0), 4);
        x.restore(0);
        Check.due("P13 cells of now", x.guessed(1, 0), 0);
        Check.due("P13 the image is as it was", x.told(11), 80);
        x.swap(1, 2);
        x.image(1);
        x.restore(0);
        Check.due("P13 nothing sown yet", x.guessed(1, 1), 0);
        x.night();
        Check.tell(x, "Bbf1");
        Check.due("P13 another KIND came up", x.guessed(1, 1), 0);
    }

    private static void guessRefused() {
        BlindSown x = new BlindSown();
        Check.tell(x, "A");
        Check.due("P13 guessed(4, 2)", x.guessed(4, 2), BlindSown.UNKNOWN);
        Check.due("P13 guessed(-1, 0)", x.guessed(-1, 0), BlindSown.UNKNOWN);
        Check.due("P13 guessed(0, 2)", x.guessed(0, 2), BlindSown.OUTSIDE);
        Check.due("P13 guessed(0, -1)", x.guessed(0, -1), BlindSown.OUTSIDE);
        Check.tell(x, "f");
        Check.due("P13 STATE comes ahead of NO", x.guessed(0, 0), BlindSown.STATE);
        x.image(0);
        Check.due("P13 NO", x.guessed(0, 0), BlindSown.NO);
        Check.due("P13 the other image", x.guessed(0, 1), BlindSown.STATE);
    }

    private static void spiral() {
        BlindSown x = new BlindSown();
        int[] turns = {8, BlindSown.NONE, 8, 4, 8};
        for (int f = 1; f <= 9; f++) {
            for (int wrong = 0; wrong < 5; wrong++) {
                Check.due("P14 turns", x.spiral(f, wrong, 0), turns[wrong]);
            }
            Check.due("P14 eight sides", x.spiral(f, 2, 1), 8 * f);
            Check.due("P14 eight sides to the left", x.spiral(f, 0, 1), 8 * f);
            Check.due("P14 four sides", x.spiral(f, 3, 1), 4 * f);
            Check.due("P14 no turn, no cells", x.spiral(f, 1, 1), BlindSown.NONE);
        }
        Check.due("P14 a star of 1", x.spiral(1, 4, 1), 4);
        Check.due("P14 a star of 9", x.spiral(9, 4, 1), 52);
        Check.due("P14 spiral(0, 2, 0)", x.spiral(0, 2, 0), BlindSown.OUTSIDE);
        Check.due("P14 spiral(10, 2, 0)", x.spiral(10, 2, 0), BlindSown.OUTSIDE);
        Check.due("P14 spiral(1, -1, 0)", x.spiral(1, -1, 0), BlindSown.OUTSIDE);
        Check.due("P14 spiral(1, 5, 0)", x.spiral(1, 5, 0), BlindSown.OUTSIDE);
        Check.due("P14 spiral(1, 2, -1)", x.spiral(1, 2, -1), BlindSown.OUTSIDE);
        Check.due("P14 spiral(1, 2, 2)", x.spiral(1, 2, 2), BlindSown.OUTSIDE);
        Check.due("P14 spiral(1, 1, 2)", x.spiral(1, 1, 2), BlindSown.OUTSIDE);
    }
}
