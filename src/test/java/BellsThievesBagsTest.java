/** Promises 15 to 19: bells, thieves, bags. */
public final class BellsThievesBagsTest {
    public static void main(String[] args) {
        oneBell();
        twoBells();
        bellsWithoutNeed();
        bellsRefused();
        thief();
        thiefRefused();
        safest();
        swap();
        found();
        foundRefused();
        Check.end();
    }

    /** The sower at (3, 3) faces up; the row that is told runs to the right. */
    private static BlindSown rowToTheRight() {
        BlindSown x = new BlindSown();
        x.set(0, 0, 27);
        x.row(28, 0);
        x.row(29, 0);
        return x;
    }

    private static void oneBell() {
        BlindSown x = rowToTheRight();
        x.post(3);
        Check.tell(x, "Abf2");
        Check.due("P15 without posts, not with those there are", x.bells(0, 0), 2);
        Check.due("P15 one post", x.bells(1, 0), 0);
        // (6, 2): 3 off in x at 10 is more than 4 off aslant at 7.
        Check.due("P15 the least cell that leads right", x.bells(1, 1), 22);
        Check.due("P15 no second", x.bells(1, 2), BlindSown.NONE);
        Check.due("P15 no first", x.bells(0, 1), BlindSown.NONE);
        Check.due("P15 no second either", x.bells(0, 2), BlindSown.NONE);
        Check.due("P15 the pad stays", x.told(0), 4);
        Check.due("P15 posts stay", x.told(2), 3);
        Check.due("P15 one of them", x.told(1), 1);
        Check.due("P15 sowers stay", x.about(0, 0), 27);
        Check.due("P15 nothing is sown", x.told(10), 0);
        x.set(0, 4, 3);
        Check.due("P15 one who turns wrong", x.bells(1, 0), 0);
        Check.due("P15 needs a bell elsewhere", x.bells(1, 1), 5);
    }

    private static void twoBells() {
        BlindSown x = new BlindSown();
        x.set(0, 0, 18);
        x.set(1, 0, 45);
        x.set(0, 5, 1);
        x.set(1, 5, 1);
        x.row(19, 0);
        x.row(44, 1);
        Check.tell(x, "Abf1Bbf1");
        Check.due("P15 two: none go wrong", x.bells(2, 0), 0);
        Check.due("P15 two: the first", x.bells(2, 1), 19);
        Check.due("P15 two: the second", x.bells(2, 2), 44);
        Check.due("P15 one: one goes wrong", x.bells(1, 0), 1);
        Check.due("P15 one: the first", x.bells(1, 1), 19);
        Check.due("P15 none: both go wrong", x.bells(0, 0), 2);
        Check.go(x, "Crrf4");
        Check.tell(x, "Abf1Bbf1");
        Check.due("P15 those that strayed before count too", x.bells(2, 0), 4);
        Check.due("P15 two: the first, as before", x.bells(2, 1), 19);
    }

    private static void bellsWithoutNeed() {
        BlindSown x = new BlindSown();
        x.set(0, 1, 2);
        Check.go(x, "Af3");
        Check.due("P15 nothing said", x.bells(1, 0), 3);
        Check.due("P15 the least cell", x.bells(1, 1), 0);
        Check.tell(x, "Aw1f2");
        Check.due("P15 nobody turns to a bell", x.bells(2, 0), 5);
        Check.due("P15 the first", x.bells(2, 1), 0);
        Check.due("P15 the second", x.bells(2, 2), 1);
    }

    private static void bellsRefused() {
        BlindSown x = new BlindSown();
        Check.due("P15 bells(-1, 0)", x.bells(-1, 0), BlindSown.OUTSIDE);
        Check.due("P15 bells(3, 0)", x.bells(3, 0), BlindSown.OUTSIDE);
        Check.due("P15 bells(0, -1)", x.bells(0, -1), BlindSown.OUTSIDE);
        Check.due("P15 bells(0, 3)", x.bells(0, 3), BlindSown.OUTSIDE);
        Check.tell(x, "Aw");
        Check.due("P15 OUTSIDE comes first", x.bells(3, 0), BlindSown.OUTSIDE);
        Check.due("P15 NO", x.bells(2, 0), BlindSown.NO);
        Check.due("P15 NO comes ahead of NONE", x.bells(0, 2), BlindSown.NO);
    }

    /** Kind 0 in (1..7, 3), all ears at (0, 0) hear nothing but their own cell. */
    private static BlindSown aRowOfGrains() {
        BlindSown x = new BlindSown();
        x.set(0, 0, 24);
        x.set(0, 1, 2);
        Check.go(x, "Af7");
        x.set(0, 0, 0);
        for (int s = 0; s < 4; s++) {
            x.set(s, 5, 0);
        }
        return x;
    }

    private static void thief() {
        BlindSown x = aRowOfGrains();
        Check.due("P16 not caught", x.thief(24, 2, 0), BlindSown.NONE);
        Check.due("P16 by nobody", x.thief(24, 2, 1), BlindSown.NONE);
        Check.due("P16 all of it", x.thief(24, 2, 2), 7);
        Check.due("P16 from within", x.thief(28, 2, 2), 4);
        Check.due("P16 back", x.thief(28, 6, 2), 4);
        Check.due("P16 across", x.thief(4, 4, 2), 1);
        Check.due("P16 out at once", x.thief(31, 2, 2), 1);
        x.set(1, 0, 32);
        x.set(1, 1, 1);
        Check.go(x, "Bf1");
        x.set(1, 0, 0);
        Check.due("P16 two KINDS in one cell", x.thief(24, 2, 2), 8);
        x.set(0, 0, 24);
        x.set(0, 1, 2);
        Check.go(x, "Af7");
        x.set(0, 0, 0);
        Check.due("P16 as many as there are", x.thief(24, 2, 2), 15);
        x.set(2, 0, 30);
        x.set(3, 0, 29);
        x.set(3, 5, 1);
        Check.due("P16 the minute", x.thief(24, 2, 0), 4);
        Check.due("P16 by whom", x.thief(24, 2, 1), 3);
        Check.due("P16 without the last cell", x.thief(24, 2, 2), 7);
        x.set(2, 5, 2);
        Check.due("P16 the least of two", x.thief(24, 2, 1), 2);
        x.set(1, 0, 31);
        x.set(1, 5, 9);
        Check.due("P16 caught at once", x.thief(24, 2, 0), 0);
        Check.due("P16 caught at once by", x.thief(24, 2, 1), 1);
        Check.due("P16 with nothing", x.thief(24, 2, 2), 0);
        Check.due("P16 nothing is taken", x.told(10), 15);
    }

    private static void thiefRefused() {
        BlindSown x = new BlindSown();
        Check.due("P16 thief(-1, 0, 0)", x.thief(-1, 0, 0), BlindSown.OUTSIDE);
        Check.due("P16 thief(64, 0, 0)", x.thief(64, 0, 0), BlindSown.OUTSIDE);
        Check.due("P16 thief(0, -1, 0)", x.thief(0, -1, 0), BlindSown.OUTSIDE);
        Check.due("P16 thief(0, 8, 0)", x.thief(0, 8, 0), BlindSown.OUTSIDE);
        Check.due("P16 thief(0, 0, -1)", x.thief(0, 0, -1), BlindSown.OUTSIDE);
        Check.due("P16 thief(0, 0, 3)", x.thief(0, 0, 3), BlindSown.OUTSIDE);
    }

    private static void safest() {
        BlindSown x = aRowOfGrains();
        Check.due("P17 loot", x.safest(0), 7);
        Check.due("P17 cell", x.safest(1), 24);
        Check.due("P17 way", x.safest(2), 2);
        x.set(0, 0, 24);
        Check.due("P17 loot from the other side", x.safest(0), 7);
        Check.due("P17 cell", x.safest(1), 31);
        Check.due("P17 way", x.safest(2), 6);
        Check.due("P17 safest(-1)", x.safest(-1), BlindSown.OUTSIDE);
        Check.due("P17 safest(3)", x.safest(3), BlindSown.OUTSIDE);
        x.set(0, 5, 9);
        Check.due("P17 all is heard", x.safest(0), 0);
        Check.due("P17 the least cell", x.safest(1), 0);
        Check.due("P17 the least way", x.safest(2), 0);
    }

    private static void swap() {
        BlindSown x = new BlindSown();
        x.set(0, 3, 7);
        x.set(0, 4, 4);
        x.set(0, 5, 9);
        x.set(0, 0, 40);
        x.set(0, 1, 3);
        Check.due("P18 swap(0, 3)", x.swap(0, 3), 1);
        int[] zero = {40, 3, 3, 20, 4, 9}, three = {0, 0, 0, 7, 2, 3};
        for (int what = 0; what < 6; what++) {
            Check.due("P18 about(0, " + what + ")", x.about(0, what), zero[what]);
            Check.due("P18 about(3, " + what + ")", x.about(3, what), three[what]);
        }
        Check.due("P18 swap(3, 0)", x.swap(3, 0), 1);
        Check.due("P18 back again", x.about(0, 3), 7);
        int[][] bad = {{0, 0}, {3, 3}, {-1, 0}, {0, -1}, {4, 0}, {0, 4}, {5, 5}};
        for (int[] two : bad) {
            Check.due("P18 swap(" + two[0] + ", " + two[1] + ")", x.swap(two[0], two[1]), BlindSown.UNKNOWN);
        }
        Check.due("P18 refused: as it was", x.about(0, 3), 7);
    }

    private static void found() {
        BlindSown x = new BlindSown();
        x.set(0, 1, 2);
        x.set(1, 1, 4);
        Check.due("P19 nothing said", x.found(0, 1), BlindSown.NONE);
        Check.tell(x, "Aw1rlf1Bf1");
        Check.due("P19 found(0, 1)", x.found(0, 1), 4);
        Check.due("P19 found(1, 0)", x.found(1, 0), 4);
        Check.due("P19 found(1, 2)", x.found(1, 2), 6);
        Check.due("P19 found(2, 3)", x.found(2, 3), BlindSown.NONE);
        Check.due("P19 the pad stays", x.told(0), 10);
        Check.due("P19 nothing is swapped", x.about(0, 2), 0);
        Check.due("P19 nothing is done", x.told(10), 0);
        x.set(1, 2, 0);
        Check.due("P19 bags that are alike", x.found(0, 1), BlindSown.NONE);
        x.set(1, 3, 0);
        Check.due("P19 of one KIND, but empty", x.found(0, 1), 4);
        x.set(0, 3, 1);
        Check.write(x, "Bw1Aw1f2");
        Check.due("P19 one grain or none", x.found(0, 1), 4);
        x.set(0, 3, 3);
        x.set(1, 3, 2);
        Check.write(x, "Af2f2Bf1");
        Check.due("P19 when the bag is empty too early", x.found(0, 1), 2);
        x.set(0, 3, 0);
        x.set(1, 3, 0);
        x.set(1, 2, 3);
        Check.due("P19 empty bags", x.found(0, 1), BlindSown.NONE);
    }

    private static void foundRefused() {
        BlindSown x = new BlindSown();
        Check.tell(x, "A0");
        int[][] bad = {{0, 0}, {-1, 0}, {0, -1}, {4, 0}, {0, 4}, {-1, -1}};
        for (int[] two : bad) {
            Check.due("P19 found(" + two[0] + ", " + two[1] + ")", x.found(two[0], two[1]), BlindSown.UNKNOWN);
        }
        Check.due("P19 NO", x.found(0, 1), BlindSown.NO);
    }
}
