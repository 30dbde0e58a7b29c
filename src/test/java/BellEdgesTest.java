/** Part 3 and promises 15 to 19, sentence by sentence: each test stands for the words ahead of it. */
public final class BellEdgesTest {
    private static final int NONE = BlindSown.NONE, NO = BlindSown.NO;
    private static final int OUTSIDE = BlindSown.OUTSIDE, UNKNOWN = BlindSown.UNKNOWN;

    public static void main(String[] args) {
        bellsOfNothing();
        bellsNoSuchPost();
        bellsInPlaceOfThose();
        bellsFromTheFieldAsItIs();
        bellsLastCell();
        bellsLastTwoCells();
        bellsStrayInEveryCell();
        bellsSecondIsGreater();
        bellsThatDoNotHelp();
        bellsOfAllKinds();
        bellsRefused();
        thiefMinuteZero();
        thiefLastMinute();
        thiefToTheEdge();
        thiefLoot();
        thiefLeastSower();
        thiefHeard();
        safestOfNothing();
        safestLastCell();
        safestOnTheEdge();
        safestOnEachEdge();
        safestLeastWay();
        safestNotAlone();
        swappedBags();
        foundOfNothing();
        foundInTheFirstPart();
        foundInTheLastPart();
        foundNever();
        foundByThePosts();
        foundLeavesAll();
        Check.end();
    }

    private static void stand(BlindSown x, int sower, int cell, int way, int ear) {
        x.set(sower, 0, cell);
        x.set(sower, 1, way);
        x.set(sower, 5, ear);
    }

    /** Has a sower sow one cell and puts them away to cell 0. */
    private static void sow(BlindSown x, int sower, int cell) {
        x.set(sower, 0, cell % 8 == 0 ? cell + 1 : cell - 1);
        x.set(sower, 1, cell % 8 == 0 ? 6 : 2);
        Check.go(x, (char) ('A' + sower) + "f1");
        x.set(sower, 0, 0);
        x.set(sower, 1, 0);
    }

    /** All sowers at one cell, who hear so far. */
    private static void all(BlindSown x, int cell, int ear) {
        for (int s = 0; s < 4; s++) {
            stand(x, s, cell, 0, ear);
        }
    }

    // ---- bells

    private static void bellsOfNothing() {
        BlindSown x = new BlindSown();
        for (int posts = 0; posts < 3; posts++) {
            Check.due("an empty pad, a bare field", x.bells(posts, 0), 0);
        }
        Check.due("one: the least", x.bells(1, 1), 0);
        Check.due("two: the least", x.bells(2, 1), 0);
        Check.due("two: the next", x.bells(2, 2), 1);
    }

    /** "the first CELL (1), the second (2); NONE: there is none". */
    private static void bellsNoSuchPost() {
        BlindSown x = new BlindSown();
        for (String night : new String[] {"", "Ab", "Abf2"}) {
            Check.write(x, night);
            Check.due("no POSTS: the first", x.bells(0, 1), NONE);
            Check.due("no POSTS: the second", x.bells(0, 2), NONE);
            Check.due("one POST: the second", x.bells(1, 2), NONE);
            Check.holds("one POST: the first", x.bells(1, 1) >= 0);
            Check.holds("two POSTS: the second", x.bells(2, 2) > x.bells(2, 1));
        }
    }

    /** "so many POSTS (0 to 2) in any CELLS, in place of those there are". */
    private static void bellsInPlaceOfThose() {
        BlindSown x = new BlindSown();
        stand(x, 0, 27, 0, 9);
        x.row(26, 0);
        x.post(26);
        x.post(1);
        Check.tell(x, "Abf1");
        Check.due("without them it goes wrong", x.bells(0, 0), 1);
        Check.due("one may stand where one does", x.bells(1, 0), 0);
        Check.due("those there are stay: how many", x.told(1), 2);
        Check.due("those there are stay: the first", x.told(2), 26);
        x.night();
        Check.due("with them it went right", x.strayed(-1, 0), 0);
    }

    /** "(from THE FIELD as it is now)": what strayed before counts, what stands right does not. */
    private static void bellsFromTheFieldAsItIs() {
        BlindSown x = new BlindSown();
        sow(x, 1, 20);
        sow(x, 1, 21);
        x.row(21, 1);
        stand(x, 0, 27, 0, 3);
        Check.tell(x, "Abf1");
        Check.due("one strayed before, one will", x.bells(0, 0), 2);
        x.row(19, 0);
        Check.due("the row is told now", x.bells(0, 0), 1);
        x.row(19, 1);
        Check.due("another KIND is told", x.bells(0, 0), 2);
        x.set(0, 3, 0);
        Check.due("an empty bag", x.bells(0, 0), 1);
        Check.due("nothing is done", x.told(10), 2);
        Check.due("sowers stay", x.about(0, 0), 27);
        Check.due("nor walked", x.about(0, 6), 0);
    }

    /** "in any CELLS": also in the last one. */
    private static void bellsLastCell() {
        BlindSown x = new BlindSown();
        stand(x, 0, 54, 6, 1);
        x.row(63, 0);
        Check.tell(x, "Abf1");
        Check.due("63 leads right", x.bells(1, 0), 0);
        Check.due("and no other one", x.bells(1, 1), 63);
        Check.due("no second", x.bells(1, 2), NONE);
        Check.due("two: the first is the least of all", x.bells(2, 1), 0);
        Check.due("two: the second leads right", x.bells(2, 2), 63);
        BlindSown y = new BlindSown();
        stand(y, 0, 9, 2, 1);
        y.row(0, 0);
        Check.tell(y, "Abf1");
        Check.due("0 leads right", y.bells(1, 1), 0);
        Check.due("none goes wrong", y.bells(1, 0), 0);
    }

    private static void bellsLastTwoCells() {
        BlindSown x = new BlindSown();
        stand(x, 0, 54, 6, 1);
        stand(x, 1, 53, 6, 1);
        x.row(63, 0);
        x.row(62, 1);
        Check.tell(x, "Abf1Bbf1");
        // For A both are heard, alike near: 62 is the less, so A's grain goes there.
        Check.due("one goes wrong by one", x.bells(1, 0), 1);
        Check.due("one goes wrong by two", x.bells(2, 0), 1);
        stand(x, 0, 54, 2, 1);
        x.set(0, 4, 1);
        Check.write(x, "Abf1Bbf1");
        Check.due("A turns wrong, to the left: 62 leads to 63", x.bells(1, 0), 0);
        Check.due("by 62 alone", x.bells(1, 1), 62);
    }

    /** A grain that will go wrong counts wherever it falls. */
    private static void bellsStrayInEveryCell() {
        for (int cell = 0; cell < 64; cell++) {
            BlindSown x = new BlindSown();
            stand(x, 1, cell % 8 == 0 ? cell + 1 : cell - 1, cell % 8 == 0 ? 6 : 2, 0);
            Check.tell(x, "Bbf1");
            Check.due("astray in " + cell, x.bells(0, 0), 1);
            x.row(cell, 2);
            Check.due("another KIND in " + cell, x.bells(1, 0), 1);
            x.row(cell, 1);
            Check.due("right in " + cell, x.bells(0, 0), 0);
        }
    }

    /** "the least CELLS (the first one, then the second, which is greater) by which". */
    private static void bellsSecondIsGreater() {
        BlindSown x = new BlindSown();
        stand(x, 0, 49, 0, 1);
        stand(x, 1, 14, 0, 1);
        x.row(56, 0);
        x.row(7, 1);
        Check.tell(x, "Abf1Bbf1");
        Check.due("none goes wrong", x.bells(2, 0), 0);
        Check.due("the less is the first", x.bells(2, 1), 7);
        Check.due("the greater is the second", x.bells(2, 2), 56);
        Check.due("by one, one goes wrong", x.bells(1, 0), 1);
        Check.due("the less of those", x.bells(1, 1), 7);
    }

    /** Where every choice is alike the least CELLS are told, also when they are where someone stands. */
    private static void bellsThatDoNotHelp() {
        BlindSown x = new BlindSown();
        stand(x, 0, 27, 0, 0);
        Check.tell(x, "Abf3");
        Check.due("who hears nothing", x.bells(2, 0), 3);
        Check.due("the least", x.bells(2, 1), 0);
        Check.due("the next", x.bells(2, 2), 1);
        BlindSown y = new BlindSown();
        Check.tell(y, "Abf3");
        Check.due("who stands in a corner: out is best", y.bells(1, 0), 0);
        Check.due("a bell where they stand turns them nowhere", y.bells(1, 1), 0);
    }

    /** "the fewest STRAYED GRAINS of all KINDS together". */
    private static void bellsOfAllKinds() {
        BlindSown x = new BlindSown();
        for (int s = 0; s < 4; s++) {
            stand(x, s, 8 * s + 16, 2, 0);
        }
        Check.tell(x, "Af1Bf2Cf3Df4");
        for (int posts = 0; posts < 3; posts++) {
            Check.due("all of them", x.bells(posts, 0), 10);
        }
        x.row(41 - 8, 2);
        x.row(41, 3);
        Check.due("less those that are told", x.bells(2, 0), 8);
    }

    private static void bellsRefused() {
        BlindSown x = new BlindSown();
        Check.due("posts -1", x.bells(-1, 0), OUTSIDE);
        Check.due("posts 3", x.bells(3, 0), OUTSIDE);
        Check.due("what -1", x.bells(0, -1), OUTSIDE);
        Check.due("what 3", x.bells(2, 3), OUTSIDE);
        Check.tell(x, "b");
        Check.due("NO", x.bells(1, 0), NO);
        Check.due("NO ahead of NONE", x.bells(0, 1), NO);
        Check.due("OUTSIDE ahead of NO", x.bells(0, 3), OUTSIDE);
    }

    // ---- thieves

    /** "a CELL a minute, from minute 0 on": heard where they start. */
    private static void thiefMinuteZero() {
        BlindSown x = new BlindSown();
        sow(x, 0, 27);
        all(x, 63, 0);
        stand(x, 2, 27, 0, 0);
        Check.due("the minute", x.thief(27, 0, 0), 0);
        Check.due("by whom", x.thief(27, 0, 1), 2);
        Check.due("without that CELL", x.thief(27, 0, 2), 0);
        Check.due("a minute later", x.thief(35, 0, 0), 1);
        Check.due("not behind them", x.thief(35, 4, 0), NONE);
    }

    private static void thiefLastMinute() {
        BlindSown x = new BlindSown();
        sow(x, 0, 1);
        sow(x, 0, 7);
        all(x, 7, 0);
        Check.due("the last CELL of a row", x.thief(0, 2, 0), 7);
        Check.due("by whom", x.thief(0, 2, 1), 0);
        Check.due("without the last", x.thief(0, 2, 2), 1);
        all(x, 63, 0);
        Check.due("the last CELL aslant", x.thief(0, 3, 0), 7);
        all(x, 56, 0);
        Check.due("the last CELL of a column", x.thief(0, 4, 0), 7);
        Check.due("not caught: all", x.thief(0, 2, 2), 2);
        Check.due("not caught: the minute", x.thief(0, 2, 0), NONE);
        Check.due("not caught: by whom", x.thief(0, 2, 1), NONE);
    }

    /** "goes a straight way from a CELL by a WAY to the edge": it ends there, and leads round nowhere. */
    private static void thiefToTheEdge() {
        BlindSown x = new BlindSown();
        all(x, 16, 0);
        sow(x, 0, 8);
        sow(x, 0, 15);
        all(x, 16, 0);
        Check.due("to the right edge", x.thief(14, 2, 2), 1);
        Check.due("not round to the next row", x.thief(14, 2, 0), NONE);
        Check.due("a corner, out at once", x.thief(7, 2, 0), NONE);
        Check.due("a corner, with what lies there", x.thief(7, 4, 2), 1);
        Check.due("from the edge outward: that CELL alone", x.thief(15, 2, 2), 1);
        Check.due("from the edge across", x.thief(15, 6, 2), 2);
        Check.due("along the edge", x.thief(63, 0, 2), 1);
        Check.due("along the edge, caught", x.thief(56, 0, 0), 5);
        Check.due("8", x.thief(8, 6, 2), 1);
        for (int way : new int[] {5, 6, 7, 0, 1}) {
            Check.due("way " + way + " from 0", x.thief(0, way, 0), NONE);
        }
    }

    /** "LOOT: GRAINS of CELLS up to that one (without it), or of all". */
    private static void thiefLoot() {
        BlindSown x = new BlindSown();
        for (int s = 0; s < 4; s++) {
            for (int i = 0; i <= s; i++) {
                sow(x, s, 8 * s + 3);
            }
        }
        sow(x, 0, 3);
        all(x, 63, 0);
        Check.due("all, of all KINDS", x.thief(3, 4, 2), 2 + 2 + 3 + 4);
        for (int minute = 0; minute < 8; minute++) {
            x.set(1, 0, 8 * minute + 3);
            int[] due = {0, 2, 4, 7, 11, 11, 11, 11};
            Check.due("caught in " + minute, x.thief(3, 4, 0), minute);
            Check.due("loot by " + minute, x.thief(3, 4, 2), due[minute]);
        }
        Check.due("nothing is taken", x.told(10), 11);
    }

    /** "the first minute in which they are HEARD by one, the least such SOWER". */
    private static void thiefLeastSower() {
        BlindSown x = new BlindSown();
        all(x, 63, 0);
        for (int s = 3; s >= 0; s--) {
            x.set(s, 0, 20);
            Check.due("the least of them", x.thief(16, 2, 1), s);
            Check.due("in minute 4", x.thief(16, 2, 0), 4);
        }
        x.set(3, 0, 19);
        Check.due("the first minute goes ahead", x.thief(16, 2, 1), 3);
        Check.due("minute 3", x.thief(16, 2, 0), 3);
    }

    /** "HEARD: no more CELLS off than EAR (the greater of x and y)". */
    private static void thiefHeard() {
        BlindSown x = new BlindSown();
        all(x, 63, 0);
        stand(x, 1, 27, 0, 2);
        Check.due("2 above", x.thief(8, 2, 0), 1);
        Check.due("3 above", x.thief(0, 2, 0), NONE);
        Check.due("2 below", x.thief(40, 2, 0), 1);
        Check.due("3 below", x.thief(48, 2, 0), NONE);
        Check.due("3 to the left", x.thief(0, 4, 0), NONE);
        Check.due("2 to the left", x.thief(1, 4, 0), 1);
        Check.due("2 to the right", x.thief(5, 4, 0), 1);
        Check.due("3 to the right", x.thief(6, 4, 0), NONE);
        x.set(1, 5, 9);
        Check.due("all is heard", x.thief(0, 4, 0), 0);
    }

    private static void safestOfNothing() {
        BlindSown x = new BlindSown();
        Check.due("LOOT", x.safest(0), 0);
        Check.due("the least CELL", x.safest(1), 0);
        Check.due("the least WAY", x.safest(2), 0);
        Check.due("safest(-1)", x.safest(-1), OUTSIDE);
        Check.due("safest(3)", x.safest(3), OUTSIDE);
    }

    /** "of all CELLS on the edge and all WAYS": the last CELL and the last WAY, too. */
    private static void safestLastCell() {
        BlindSown x = new BlindSown();
        for (int cell : new int[] {18, 36, 54}) {
            sow(x, 0, cell);
        }
        all(x, 0, 0);
        Check.due("LOOT", x.safest(0), 3);
        Check.due("the last CELL", x.safest(1), 63);
        Check.due("the last WAY", x.safest(2), 7);
        all(x, 63, 0);
        Check.due("LOOT from the other end", x.safest(0), 3);
        Check.due("the first CELL", x.safest(1), 0);
        Check.due("its WAY", x.safest(2), 3);
    }

    /** Not from within THE FIELD, where nobody would hear them. */
    private static void safestOnTheEdge() {
        BlindSown x = new BlindSown();
        for (int cell = 25; cell < 31; cell++) {
            sow(x, 0, cell);
        }
        all(x, 24, 0);
        stand(x, 1, 31, 0, 0);
        Check.due("from within", x.thief(25, 2, 2), 6);
        Check.due("from the edge", x.safest(0), 1);
        Check.due("CELL", x.safest(1), 0);
        Check.due("WAY", x.safest(2), 3);
    }

    /** Six grains across, and who listens at one end: the other end is the best of all. */
    private static void safestOnEachEdge() {
        int[] listen = {24, 31, 3, 60}, cell = {31, 24, 59, 4}, way = {6, 2, 0, 4};
        for (int i = 0; i < 4; i++) {
            BlindSown x = new BlindSown();
            int step = (listen[i] - cell[i]) / 7;
            for (int n = 1; n < 7; n++) {
                sow(x, 0, cell[i] + n * step);
            }
            all(x, listen[i], 0);
            Check.due("LOOT from " + cell[i], x.safest(0), 6);
            Check.due("CELL " + cell[i], x.safest(1), cell[i]);
            Check.due("WAY from " + cell[i], x.safest(2), way[i]);
        }
    }

    /** "that with the greatest LOOT, the least CELL, WAY". */
    private static void safestLeastWay() {
        int[] cells = {7, 56, 63, 24, 31, 3};
        int[] leastCell = {0, 0, 7, 0, 4, 0}, leastWay = {2, 4, 4, 4, 3, 2};
        for (int i = 0; i < cells.length; i++) {
            BlindSown x = new BlindSown();
            sow(x, 0, cells[i]);
            all(x, 27, 0);
            Check.due("LOOT of " + cells[i], x.safest(0), 1);
            Check.due("CELL for " + cells[i], x.safest(1), leastCell[i]);
            Check.due("WAY for " + cells[i], x.safest(2), leastWay[i]);
        }
    }

    /** Who can not be safe anywhere: the least of all that are alike. */
    private static void safestNotAlone() {
        BlindSown x = new BlindSown();
        sow(x, 0, 1);
        all(x, 0, 9);
        Check.due("LOOT", x.safest(0), 0);
        Check.due("CELL", x.safest(1), 0);
        Check.due("WAY", x.safest(2), 0);
        Check.due("nothing is taken", x.told(10), 1);
    }

    // ---- bags

    /** "two SOWERS' BAGS are exchanged (KIND and GRAINS)"; "UNKNOWN: also both are one". */
    private static void swappedBags() {
        for (int s = 0; s < 4; s++) {
            for (int o = 0; o < 4; o++) {
                BlindSown x = new BlindSown();
                for (int i = 0; i < 4; i++) {
                    x.set(i, 3, 33 * i);
                    stand(x, i, 10 + i, i, 4 + i);
                    x.set(i, 4, i);
                }
                Check.due("swap(" + s + ", " + o + ")", x.swap(s, o), s == o ? UNKNOWN : 1);
                for (int i = 0; i < 4; i++) {
                    int bag = i == s ? o : i == o ? s : i;
                    int[] due = {10 + i, i, bag, 33 * bag, i, 4 + i};
                    for (int what = 0; what < 6; what++) {
                        Check.due("about(" + i + ", " + what + ")", x.about(i, what), due[what]);
                    }
                }
            }
        }
        BlindSown x = new BlindSown();
        Check.due("swap(-1, 0)", x.swap(-1, 0), UNKNOWN);
        Check.due("swap(0, 4)", x.swap(0, 4), UNKNOWN);
        Check.due("swap(4, 4)", x.swap(4, 4), UNKNOWN);
        Check.due("found(2, 2)", x.found(2, 2), UNKNOWN);
        Check.due("found(4, 0)", x.found(4, 0), UNKNOWN);
        Check.due("found(0, -1)", x.found(0, -1), UNKNOWN);
        Check.tell(x, "Aw");
        Check.due("found(2, 2) ahead of NO", x.found(2, 2), UNKNOWN);
        Check.due("found(2, 3)", x.found(2, 3), NO);
    }

    private static void foundOfNothing() {
        BlindSown x = new BlindSown();
        Check.due("no signs", x.found(0, 1), NONE);
        Check.tell(x, "ABCD");
        Check.due("letters", x.found(0, 1), NONE);
        Check.write(x, "Af1Bf1");
        Check.due("steps that lead out", x.found(0, 1), NONE);
    }

    /** "the first PART (from 0 on)": the letter is PART 0, so the first that can tell is 1. */
    private static void foundInTheFirstPart() {
        BlindSown x = new BlindSown();
        x.set(0, 1, 3);
        x.set(1, 1, 3);
        Check.tell(x, "Af9f9Bf9");
        Check.due("A's first steps", x.found(0, 1), 1);
        Check.due("from the other side", x.found(1, 0), 1);
        Check.due("B's are PART 4", x.found(1, 2), 4);
        Check.due("A and one who does not go", x.found(3, 0), 1);
    }

    private static void foundInTheLastPart() {
        BlindSown x = new BlindSown();
        x.set(3, 1, 3);
        Check.tell(x, "D" + "rrrrrrrr".repeat(4) + "w1".repeat(2) + "lf1");
        Check.due("40 signs", x.told(0), 40);
        Check.due("the last of 37 PARTS", x.found(3, 0), 36);
        x.set(3, 3, 1);
        x.set(0, 2, 3);
        x.set(0, 3, 2);
        Check.write(x, "Df1f1f1");
        Check.due("one grain or two", x.found(0, 3), 2);
        x.set(0, 3, 99);
        Check.due("one grain or many", x.found(0, 3), 2);
        x.set(0, 3, 1);
        Check.due("bags alike", x.found(0, 3), NONE);
    }

    /** Two who let fall what the other would have: behind the whole of it THE FIELD is as without. */
    private static void foundNever() {
        BlindSown x = new BlindSown();
        x.set(0, 1, 2);
        x.set(1, 1, 2);
        Check.tell(x, "Af1Bf1");
        Check.due("behind PART 1 it is not so, behind the last it is", x.found(0, 1), 1);
        x.set(0, 3, 0);
        x.set(1, 3, 0);
        Check.due("empty bags", x.found(0, 1), NONE);
        Check.due("one empty, one not", x.found(0, 2), 1);
        x.set(0, 3, 1);
        x.set(1, 3, 99);
        x.set(1, 2, 0);
        Check.due("one KIND, enough in both", x.found(0, 1), NONE);
    }

    /** Both tellings of the night go by the POSTS that there are. */
    private static void foundByThePosts() {
        BlindSown x = new BlindSown();
        x.set(0, 0, 3);
        Check.tell(x, "Abf1");
        Check.due("no POST: out of THE FIELD", x.found(0, 1), NONE);
        x.post(0);
        Check.due("along the edge", x.found(0, 1), 2);
        x.clear();
        Check.due("none again", x.found(0, 1), NONE);
        x.post(3);
        Check.due("where they stand", x.found(0, 1), NONE);
        x.post(4);
        Check.due("the nearest is still there", x.found(0, 1), NONE);
    }

    private static void foundLeavesAll() {
        BlindSown x = new BlindSown();
        x.set(0, 1, 2);
        Check.tell(x, "Af3");
        Check.due("found", x.found(0, 1), 1);
        Check.due("again", x.found(0, 1), 1);
        Check.due("the pad stays", x.told(0), 3);
        Check.due("no grain", x.told(10), 0);
        Check.due("bags stay", x.about(0, 2), 0);
        Check.due("no step", x.about(0, 6), 0);
        Check.due("swapped, it is found as well", x.swap(0, 1), 1);
        Check.due("found then", x.found(0, 1), 1);
    }
}
