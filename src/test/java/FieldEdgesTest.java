/** Part 1 and promises 1 to 9, sentence by sentence: each test stands for the words ahead of it. */
public final class FieldEdgesTest {
    private static final int NONE = BlindSown.NONE, NO = BlindSown.NO, FULL = BlindSown.FULL;
    private static final int OUTSIDE = BlindSown.OUTSIDE, UNKNOWN = BlindSown.UNKNOWN;
    private static final int[] CORNERS = {0, 7, 56, 63};

    public static void main(String[] args) {
        cellsOfTheField();
        waysGoRound();
        edgesLeadOut();
        cornersLeadOut();
        sowersAndKinds();
        bagsEmptyAndFull();
        grainsWhereSteppedInto();
        wrongAtItsLimits();
        earAtItsLimits();
        fourPosts();
        fortySigns();
        signsOfTheAlphabet();
        nobodyAtFirst();
        digitsOneToNine();
        moreMustCome();
        theFirstFaultOfSeveral();
        outEndsThePartOnly();
        bellStays();
        bellNearest();
        bellLikeOnes();
        bellWaysAlike();
        bellGoesRound();
        emptyNight();
        longestNight();
        nightRefused();
        clearAndWipeOfNothing();
        Check.end();
    }

    /** Sets a sower's place, way and WRONG (told with 2 more). */
    private static void stand(BlindSown x, int sower, int cell, int way, int wrong) {
        x.set(sower, 0, cell);
        x.set(sower, 1, way);
        x.set(sower, 4, wrong);
    }

    /** "THE FIELD is 8 by 8 CELLS, x and y 0 to 7 (a CELL is x and 8 times y)". */
    private static void cellsOfTheField() {
        BlindSown x = new BlindSown();
        for (int cell : CORNERS) {
            Check.holds("set to corner " + cell, x.set(0, 0, cell) >= 0);
            Check.due("place " + cell, x.about(0, 0), cell);
            Check.due("up(" + cell + ", -1)", x.up(cell, -1), 0);
            Check.due("row(" + cell + ", 0)", x.row(cell, 0), NONE);
            Check.holds("post(" + cell + ")", x.post(cell) > 0);
            Check.holds("thief(" + cell + ", 0, 2)", x.thief(cell, 0, 2) == 0);
        }
        for (int cell : new int[] {-1, 64}) {
            Check.due("set(0, 0, " + cell + ")", x.set(0, 0, cell), OUTSIDE);
            Check.due("post(" + cell + ")", new BlindSown().post(cell), OUTSIDE);
            Check.due("up(" + cell + ", 0)", x.up(cell, 0), OUTSIDE);
            Check.due("row(" + cell + ", 0)", x.row(cell, 0), OUTSIDE);
            Check.due("thief(" + cell + ", 0, 0)", x.thief(cell, 0, 0), OUTSIDE);
        }
        Check.due("place is as it was", x.about(0, 0), 63);
    }

    /** "WAYS 0 to 7: .. and so on round": from 7 to the right is 0, from 0 to the left is 7. */
    private static void waysGoRound() {
        BlindSown x = new BlindSown();
        x.set(0, 1, 7);
        Check.go(x, "Ar");
        Check.due("7 and an eighth", x.about(0, 1), 0);
        Check.go(x, "Al");
        Check.due("0 less an eighth", x.about(0, 1), 7);
        Check.go(x, "Arrrrrrrr");
        Check.due("all round to the right", x.about(0, 1), 7);
        Check.go(x, "Allllllll");
        Check.due("all round to the left", x.about(0, 1), 7);
        Check.due("set to 8", x.set(0, 1, 8), OUTSIDE);
        Check.due("set to -1", x.set(0, 1, -1), OUTSIDE);
    }

    /** "a step that would lead out of THE FIELD is not done": over each edge, and never round it. */
    private static void edgesLeadOut() {
        int[] cells = {3, 31, 60, 24}, ways = {0, 2, 4, 6};
        for (int i = 0; i < 4; i++) {
            for (int aslant = -1; aslant <= 1; aslant++) {
                BlindSown x = new BlindSown();
                stand(x, 1, cells[i], Math.floorMod(ways[i] + aslant, 8), 2);
                Check.due("night", Check.go(x, "Bf1"), 2);
                Check.due("stays at " + cells[i], x.about(1, 0), cells[i]);
                Check.due("walked", x.about(1, 6), 0);
                Check.due("out", x.about(1, 7), 1);
                Check.due("left", x.about(1, 3), 20);
                Check.due("nothing fell", x.told(10), 0);
            }
            BlindSown x = new BlindSown();
            stand(x, 1, cells[i], Math.floorMod(ways[i] + 4, 8), 2);
            Check.go(x, "Bw9");
            Check.due("seven steps across", x.about(1, 6), 7);
            Check.due("two are out", x.about(1, 7), 2);
        }
    }

    /** From a corner three ways lead on, and five lead out. */
    private static void cornersLeadOut() {
        int[] firstInward = {2, 4, 0, 6};
        for (int i = 0; i < 4; i++) {
            for (int way = 0; way < 8; way++) {
                BlindSown x = new BlindSown();
                stand(x, 0, CORNERS[i], way, 2);
                Check.go(x, "Af1");
                boolean inward = Math.floorMod(way - firstInward[i], 8) <= 2;
                Check.due("from " + CORNERS[i] + " by " + way, x.about(0, 6), inward ? 1 : 0);
                Check.due("out of " + CORNERS[i] + " by " + way, x.about(0, 7), inward ? 0 : 1);
            }
        }
    }

    /** "SOWERS 0 to 3 .. a BAG: KIND 0 to 3 of seed (their number at first)". */
    private static void sowersAndKinds() {
        BlindSown x = new BlindSown();
        Check.due("about(-1, 2)", x.about(-1, 2), UNKNOWN);
        Check.due("about(4, 2)", x.about(4, 2), UNKNOWN);
        Check.due("set(-1, 2, 0)", x.set(-1, 2, 0), UNKNOWN);
        Check.due("set(4, 2, 0)", x.set(4, 2, 0), UNKNOWN);
        Check.due("there is no KIND -1", x.set(0, 2, -1), UNKNOWN);
        Check.due("there is no KIND 4", x.set(0, 2, 4), UNKNOWN);
        for (int s = 0; s < 4; s++) {
            Check.due("KIND of " + s, x.set(s, 2, 3 - s), s);
            Check.due("KIND of " + s + " now", x.about(s, 2), 3 - s);
            stand(x, s, 8 * s, 2, 2);
        }
        Check.go(x, "Af1Bf1Cf1Df1");
        for (int s = 0; s < 4; s++) {
            Check.due("sown by " + s, x.up(8 * s + 1, 3 - s), 1);
        }
    }

    /** "GRAINS in it (0 to 99; 20 at first)"; "one GRAIN let fall .., if there is one left". */
    private static void bagsEmptyAndFull() {
        BlindSown x = new BlindSown();
        Check.due("set(0, 3, 100)", x.set(0, 3, 100), OUTSIDE);
        Check.due("set(0, 3, -1)", x.set(0, 3, -1), OUTSIDE);
        Check.due("20 at first", x.set(0, 3, 0), 20);
        stand(x, 0, 0, 2, 2);
        Check.go(x, "Af3");
        Check.due("an empty bag lets nothing fall", x.told(10), 0);
        Check.due("and never has less than none", x.about(0, 3), 0);
        Check.due("but they walk", x.about(0, 6), 3);
        x.set(0, 3, 1);
        Check.go(x, "Af2f2");
        Check.due("the last one falls", x.up(4, 0), 1);
        Check.due("and no more", x.told(10), 1);
        Check.due("all walked", x.about(0, 6), 7);
        Check.due("set to 99", x.set(0, 3, 99), 0);
        stand(x, 0, 0, 2, 2);
        for (int i = 0; i < 4; i++) {
            Check.go(x, "Af7rrrrf7rrrrf7rrrrf7rrrr");
        }
        Check.due("99 grains fall, not one more", x.told(10), 1 + 99);
        Check.due("the bag is empty", x.about(0, 3), 0);
        Check.due("walked on", x.about(0, 6), 7 + 4 * 28);
    }

    /** "one GRAIN let fall in each CELL that is stepped into", w "walks on without". */
    private static void grainsWhereSteppedInto() {
        BlindSown x = new BlindSown();
        stand(x, 2, 9, 2, 2);
        Check.go(x, "Cf1");
        Check.due("not where they stood", x.up(9, -1), 0);
        Check.due("where they came to", x.up(10, 2), 1);
        Check.due("of no other KIND", x.up(10, -1), 1);
        Check.go(x, "Cw1rrrrw1f1");
        Check.due("walking lets nothing fall", x.told(10), 2);
        Check.due("the next f does", x.up(9, 2), 1);
        Check.due("left", x.about(2, 3), 18);
        Check.go(x, "Cf1rrrrf1rrrrf1");
        Check.due("a cell that is stepped into again", x.up(8, 2), 2);
    }

    /** "WRONG: .. (-2 to 2, told with 2 more; 0 at first)"; "A turn by r, l is an eighth so, and WRONG more". */
    private static void wrongAtItsLimits() {
        BlindSown x = new BlindSown();
        Check.due("0 at first, told as 2", x.about(3, 4), 2);
        Check.due("set(3, 4, 5)", x.set(3, 4, 5), OUTSIDE);
        Check.due("set(3, 4, -1)", x.set(3, 4, -1), OUTSIDE);
        int[] right = {7, 0, 1, 2, 3}, left = {5, 6, 7, 0, 1};
        for (int wrong = 0; wrong < 5; wrong++) {
            stand(x, 3, 27, 0, wrong);
            Check.go(x, "Dr");
            Check.due("r by WRONG " + (wrong - 2), x.about(3, 1), right[wrong]);
            stand(x, 3, 27, 0, wrong);
            Check.go(x, "Dl");
            Check.due("l by WRONG " + (wrong - 2), x.about(3, 1), left[wrong]);
            stand(x, 3, 27, 7, wrong);
            Check.go(x, "Dr");
            Check.due("r from 7 by WRONG " + (wrong - 2), x.about(3, 1), (right[wrong] + 7) % 8);
            Check.due("WRONG stays", x.about(3, 4), wrong);
        }
    }

    /** "EAR: how many CELLS they hear (0 to 9; 3 at first)"; "HEARD: no more CELLS off than EAR (the greater ..)". */
    private static void earAtItsLimits() {
        BlindSown x = new BlindSown();
        Check.due("set(0, 5, 10)", x.set(0, 5, 10), OUTSIDE);
        Check.due("set(0, 5, -1)", x.set(0, 5, -1), OUTSIDE);
        for (int ear = 0; ear < 10; ear++) {
            for (int off = 1; off < 8; off++) {
                int[] posts = {off, 8 * off, 9 * off};
                for (int i = 0; i < 3; i++) {
                    BlindSown y = new BlindSown();
                    y.set(0, 1, 6);
                    y.set(0, 5, ear);
                    y.post(posts[i]);
                    Check.go(y, "Ab");
                    int way = i == 0 ? 2 : i == 1 ? 4 : 3;
                    Check.due("ear " + ear + ", post " + posts[i], y.about(0, 1), off <= ear ? way : 6);
                }
            }
        }
        // 3 off in y and 2 off in x: the greater counts, not the sum and not the less.
        BlindSown y = new BlindSown();
        stand(y, 0, 27, 6, 2);
        y.post(53);
        Check.go(y, "Ab");
        Check.due("by 3 at first", y.about(0, 1), 3);
        y.set(0, 5, 2);
        y.set(0, 1, 6);
        Check.go(y, "Ab");
        Check.due("not by 2", y.about(0, 1), 6);
    }

    /** "POSTS with bells: CELLS, 4 at most"; "A POST more: how many. OUTSIDE; NO: one stands there; FULL". */
    private static void fourPosts() {
        BlindSown x = new BlindSown();
        Check.due("the first", x.post(0), 1);
        Check.due("where it stands", x.post(0), NO);
        Check.due("the second", x.post(63), 2);
        Check.due("where it stands", x.post(63), NO);
        Check.due("the third", x.post(32), 3);
        Check.due("the fourth", x.post(31), 4);
        Check.due("a fifth", x.post(1), FULL);
        Check.due("where the fourth stands", x.post(31), NO);
        Check.due("none was added", x.told(1), 4);
        Check.due("and none is another", x.told(5), 31);
        Check.due("four go", x.clear(), 4);
        for (int i = 2; i < 6; i++) {
            Check.due("told(" + i + ")", x.told(i), NONE);
        }
        Check.due("there is room again", x.post(1), 1);
    }

    /** "a PAD of up to 40 signs (codes 33 to 126)". */
    private static void fortySigns() {
        BlindSown x = new BlindSown();
        Check.due("say(32)", x.say(32), OUTSIDE);
        Check.due("say(127)", x.say(127), OUTSIDE);
        for (int sign = 33; sign <= 72; sign++) {
            Check.due("say(" + sign + ")", x.say(sign), sign - 32);
        }
        Check.due("a 41st", x.say(73), FULL);
        Check.due("40 stand", x.told(0), 40);
        Check.due("40 go", x.wipe(), 40);
        for (int sign = 87; sign <= 126; sign++) {
            Check.due("say(" + sign + ")", x.say(sign), sign - 86);
        }
        Check.due("a 41st again", x.say(33), FULL);
        Check.due("32 on a full pad", x.say(32), OUTSIDE);
        Check.due("127 on a full pad", x.say(127), OUTSIDE);
    }

    /** "the first sign that can not stand there": every sign, at first, behind a letter, behind f and w. */
    private static void signsOfTheAlphabet() {
        for (int sign = 33; sign <= 126; sign++) {
            String s = String.valueOf((char) sign);
            boolean letter = "ABCD".contains(s), deed = "rlb".contains(s), far = "fw".contains(s);
            boolean digit = "123456789".contains(s);
            Check.due("fault of " + s, Check.faultOf(s), letter ? NONE : 0);
            Check.due("fault of A" + s, Check.faultOf("A" + s), letter || deed ? NONE : far ? 2 : 1);
            Check.due("fault of Bf" + s, Check.faultOf("Bf" + s), digit ? NONE : 2);
            Check.due("fault of Cw" + s, Check.faultOf("Cw" + s), digit ? NONE : 2);
            Check.due("fault of Df1" + s, Check.faultOf("Df1" + s), letter || deed ? NONE : far ? 4 : 3);
        }
    }

    /** "nobody at first"; "(f, w, r, l, b ahead of the first letter, too)". */
    private static void nobodyAtFirst() {
        for (String text : new String[] {"f1", "w1", "r", "l", "b", "f1A", "w9B", "rC", "lD", "bA", "rf"}) {
            Check.due("fault of " + text, Check.faultOf(text), 0);
        }
        BlindSown x = new BlindSown();
        Check.go(x, "Cr");
        Check.tell(x, "r");
        Check.due("nor at the next night's first", x.fault(), 0);
        Check.due("so it is not done", x.night(), NO);
        Check.due("C turned once", x.about(2, 1), 1);
        Check.go(x, "ACBDr");
        Check.due("the last named goes: D", x.about(3, 1), 1);
        Check.due("not A", x.about(0, 1), 0);
        Check.due("not C again", x.about(2, 1), 1);
    }

    /** "f and a digit 1 to 9", "w and a digit". */
    private static void digitsOneToNine() {
        for (int n = 1; n <= 9; n++) {
            for (char deed : new char[] {'f', 'w'}) {
                BlindSown x = new BlindSown();
                stand(x, 0, 0, 3, 2);
                Check.due("parts", Check.go(x, "A" + deed + n), 2);
                Check.due("steps of " + deed + n, x.about(0, 6), Math.min(n, 7));
                Check.due("out of " + deed + n, x.about(0, 7), Math.max(0, n - 7));
                Check.due("grains of " + deed + n, x.told(10), deed == 'f' ? Math.min(n, 7) : 0);
            }
        }
        Check.due("f0", Check.faultOf("Af0"), 2);
        Check.due("w0", Check.faultOf("Aw0"), 2);
        Check.due("a second digit", Check.faultOf("Af10"), 3);
    }

    /** "or the number of signs, if more must come". */
    private static void moreMustCome() {
        Check.due("Af", Check.faultOf("Af"), 2);
        Check.due("Aw", Check.faultOf("Aw"), 2);
        Check.due("Af3Bw", Check.faultOf("Af3Bw"), 5);
        Check.due("39 signs", Check.faultOf("A" + "r".repeat(37) + "w"), 39);
        Check.due("40 signs, and no room", Check.faultOf("A" + "r".repeat(38) + "f"), 40);
        Check.due("nothing at all needs no more", Check.faultOf(""), NONE);
        Check.due("a letter alone needs no more", Check.faultOf("A"), NONE);
    }

    /** "the first sign": of two the one ahead, and an early one ahead of what must come. */
    private static void theFirstFaultOfSeveral() {
        Check.due("ArxBy", Check.faultOf("ArxBy"), 2);
        Check.due("rAx", Check.faultOf("rAx"), 0);
        Check.due("Axf", Check.faultOf("Axf"), 1);
        Check.due("Af0f0", Check.faultOf("Af0f0"), 2);
        Check.due("the last of 40", Check.faultOf("A" + "l".repeat(38) + "x"), 39);
    }

    /** "is not done, nor are those that are left of that PART": the next PART is. */
    private static void outEndsThePartOnly() {
        BlindSown x = new BlindSown();
        stand(x, 0, 5, 2, 2);
        Check.due("parts", Check.go(x, "Af5f2rrf2Bw9"), 8);
        Check.due("two to the edge, two down", x.about(0, 0), 23);
        Check.due("walked", x.about(0, 6), 4);
        Check.due("out: 3 and 2", x.about(0, 7), 5);
        Check.due("left", x.about(0, 3), 16);
        Check.due("B went nowhere", x.about(1, 7), 9);
        Check.due("B stands", x.about(1, 0), 0);
    }

    /** "stays if none is, or it stands there": WRONG does not turn them either. */
    private static void bellStays() {
        for (int wrong = 0; wrong < 5; wrong++) {
            BlindSown x = new BlindSown();
            stand(x, 0, 27, 5, wrong);
            Check.due("it is a PART all the same", Check.go(x, "Ab"), 2);
            Check.due("no POSTS", x.about(0, 1), 5);
            x.post(31);
            Check.go(x, "Ab");
            Check.due("none is heard", x.about(0, 1), 5);
            x.post(27);
            x.set(0, 5, 9);
            Check.go(x, "Ab");
            Check.due("the nearest is where they stand", x.about(0, 1), 5);
            x.set(0, 5, 0);
            Check.go(x, "Ab");
            Check.due("ear 0 hears that alone", x.about(0, 1), 5);
        }
    }

    /** "turns to the nearest POST that is heard", wherever among the four it stands. */
    private static void bellNearest() {
        int[] far = {0, 7, 56};
        for (int at = 0; at < 4; at++) {
            BlindSown x = new BlindSown();
            stand(x, 0, 27, 7, 2);
            x.set(0, 5, 9);
            for (int i = 0; i < 4; i++) {
                x.post(i == at ? 29 : far[i > at ? i - 1 : i]);
            }
            Check.go(x, "Ab");
            Check.due("post " + at, x.about(0, 1), 2);
        }
    }

    /** "of like ones the least": the least CELL. */
    private static void bellLikeOnes() {
        int[][] orders = {{25, 29, 43}, {43, 29, 25}, {29, 25, 43}, {29, 43, 25}};
        for (int[] order : orders) {
            BlindSown x = new BlindSown();
            stand(x, 0, 27, 1, 2);
            for (int cell : order) {
                x.post(cell);
            }
            Check.go(x, "Ab");
            Check.due("25 of 25, 29, 43", x.about(0, 1), 6);
            x.post(11);
            Check.go(x, "Ab");
            Check.due("11 is less", x.about(0, 1), 0);
        }
    }

    /** "the least such": 7 by 3 off, straight (7 times 10) and aslant (10 times 7) lead alike. */
    private static void bellWaysAlike() {
        int[] from = {56, 56, 0, 0, 7, 7, 63, 63}, xs = {3, 7, 7, 3, -3, -7, -7, -3}, ys = {-7, -3, 3, 7, 7, 3, -3, -7};
        int[] least = {0, 1, 2, 3, 4, 5, 6, 0};
        for (int i = 0; i < 8; i++) {
            BlindSown x = new BlindSown();
            stand(x, 0, from[i], (least[i] + 4) % 8, 2);
            x.set(0, 5, 7);
            x.post(from[i] + xs[i] + 8 * ys[i]);
            Check.go(x, "Ab");
            Check.due("by " + xs[i] + ", " + ys[i], x.about(0, 1), least[i]);
        }
    }

    /** "and WRONG more to the right": round past 7 and past 0, once, however often it rings. */
    private static void bellGoesRound() {
        BlindSown x = new BlindSown();
        stand(x, 0, 27, 3, 0);
        x.post(19);
        Check.go(x, "Abbb");
        Check.due("WAY 0, 2 to the left", x.about(0, 1), 6);
        x.clear();
        x.post(18);
        x.set(0, 4, 4);
        Check.go(x, "Abb");
        Check.due("WAY 7, 2 to the right", x.about(0, 1), 1);
    }

    /** "the PAD is empty" at first; "The NIGHT on the PAD is DONE (it is empty then): PARTS". */
    private static void emptyNight() {
        BlindSown x = new BlindSown();
        Check.due("no signs", x.told(0), 0);
        Check.due("no FAULT", x.fault(), NONE);
        Check.due("no PARTS", x.night(), 0);
        Check.due("nothing is done", x.told(10), 0);
        Check.due("a night", Check.go(x, "Ar"), 2);
        Check.due("the pad is empty then", x.told(0), 0);
        Check.due("no FAULT then", x.fault(), NONE);
        Check.due("a night of nothing", x.night(), 0);
        Check.due("the turn is not done again", x.about(0, 1), 1);
        Check.due("the next sign is the first", x.say('A'), 1);
    }

    private static void longestNight() {
        BlindSown x = new BlindSown();
        Check.due("40 PARTS", Check.go(x, "A" + "r".repeat(39)), 40);
        Check.due("39 turns", x.about(0, 1), 7);
        Check.due("there is room again", x.say('D'), 1);
        x.set(1, 1, 2);
        Check.due("21 PARTS", Check.go(x, "B" + "w1".repeat(7) + "r" + "f1".repeat(12)), 21);
        Check.due("walked", x.about(1, 6), 7);
        Check.due("out", x.about(1, 7), 12);
    }

    /** "NO: there is a FAULT": nothing of it is done, also what stands ahead of the FAULT. */
    private static void nightRefused() {
        BlindSown x = new BlindSown();
        Check.write(x, "Arrf3f");
        Check.due("more must come", x.night(), NO);
        Check.write(x, "Arrf3x");
        Check.due("a sign that can not stand there", x.night(), NO);
        Check.due("no turn", x.about(0, 1), 0);
        Check.due("no step", x.about(0, 6) + x.about(0, 7), 0);
        Check.due("no grain", x.told(10), 0);
        Check.due("the signs stay", x.told(0), 6);
        Check.due("and the FAULT", x.fault(), 5);
    }

    private static void clearAndWipeOfNothing() {
        BlindSown x = new BlindSown();
        Check.due("clear", x.clear(), 0);
        Check.due("wipe", x.wipe(), 0);
        x.post(5);
        Check.tell(x, "Ax");
        Check.due("clear leaves the pad", x.clear(), 1);
        Check.due("its signs", x.told(0), 2);
        x.post(5);
        Check.due("wipe leaves the posts", x.wipe(), 2);
        Check.due("its posts", x.told(1), 1);
        Check.due("wiped: no FAULT", x.fault(), NONE);
    }
}
