import java.util.Arrays;

/** Two gangs that seek each other: a test for each sentence that names an edge. */
public final class SeekEdgesTest extends Edges {
    private static TunnelBook seeking(int left, int none, int right, int hear, int pull, int wide) {
        TunnelBook x = new TunnelBook();
        yes("seek", x.seek(left, none, right, hear, pull, wide));
        return x;
    }

    private static void chanceIs(TunnelBook x, int ahead, int off, long upper, long lower) {
        due("chance(" + ahead + ", " + off + ")", x.chance(ahead, off, false), upper);
        due("lower of chance(" + ahead + ", " + off + ")", x.chance(ahead, off, true), lower);
    }

    private static void detourIs(TunnelBook x, int ahead, int off, int least, int greatest) {
        due("detour(" + ahead + ", " + off + ")", x.detour(ahead, off, false), least);
        due("greatest detour(" + ahead + ", " + off + ")", x.detour(ahead, off, true), greatest);
    }

    private static void atFirst() {
        says("seek (At first 1, 1, 1, 0, 0, 0.)");
        TunnelBook x = new TunnelBook();
        chanceIs(x, 1, 0, 2, 3);
        chanceIs(x, 2, 1, 7, 9);
        chanceIs(x, 1, 1, 2, 3);
        detourIs(x, 2, 0, 0, 1);
        chanceIs(seeking(1, 1, 1, 0, 0, 0), 2, 1, 7, 9);
    }

    private static void refused(int... s) {
        TunnelBook x = seeking(0, 2, 1, 1, 1, 1);
        no("seek " + Arrays.toString(s), x.seek(s[0], s[1], s[2], s[3], s[4], s[5]));
        // 4 / 9 are 2 aside when they hear and 1 / 9 are 3: of these 1 / 9 and 5 / 9 miss.
        chanceIs(x, 4, 1, 1, 9);
        due("detour as ahead", x.detour(5, 0, true), 1 + 2 + 3 + 2 + 1);
    }

    private static void weights() {
        says("WEIGHTS (0 .. 9 each, not all 0); seek: False, changing nothing, for others");
        for (int side = 0; side < 3; side++) {
            for (int w : new int[] {-1, 10, MIN, MAX}) {
                int[] s = {1, 1, 1, 0, 0, 0};
                s[side] = w;
                refused(s);
            }
            int[] alone = {0, 0, 0};
            alone[side] = 9;
            TunnelBook x = seeking(alone[0], alone[1], alone[2], 0, 0, 1);
            chanceIs(x, 1, 1 - side, 0, 1);
            chanceIs(x, 2, 2 * (1 - side), 0, 1);
            chanceIs(x, 2, side == 2 ? 0 : side == 1 ? 2 : 0, 1, 1);
            alone[side] = 1;
            chanceIs(seeking(alone[0], alone[1], alone[2], 0, 0, 1), 12, 0, side == 1 ? 0 : 1, 1);
        }
        refused(0, 0, 0, 0, 0, 0);
        refused(0, 0, 0, 1, 1, 1);
        // These would be above 0, or 0, together.
        refused(-1, 1, 1, 0, 0, 0);
        refused(-1, 2, -1, 0, 0, 0);
        refused(10, -9, 0, 0, 0, 0);
        chanceIs(seeking(9, 9, 9, 0, 0, 0), 1, 0, 2, 3);
        chanceIs(seeking(9, 8, 9, 0, 0, 0), 1, 0, 9, 13);
        chanceIs(seeking(1, 0, 9, 0, 0, 1), 2, 0, 41, 50);
        chanceIs(seeking(1, 0, 9, 0, 0, 0), 1, -1, 1, 10);
        chanceIs(seeking(1, 0, 9, 0, 0, 0), 1, 1, 9, 10);
    }

    private static void hearing() {
        says("if AHEAD is HEAR or below (0 .. 40)");
        refused(1, 1, 1, -1, 1, 1);
        refused(1, 1, 1, 41, 1, 1);
        refused(1, 1, 1, MIN, 1, 1);
        refused(1, 1, 1, MAX, 1, 1);
        // Of 5 steps, behind which AHEAD is 4 .. 0, HEAR + 1 pull.
        for (int hear = 0; hear <= 4; hear++) {
            TunnelBook x = seeking(0, 1, 0, hear, 1, 0);
            chanceIs(x, 5, hear + 1, 0, 1);
            chanceIs(x, 5, hear + 2, 1, 1);
            chanceIs(x, 5, -hear - 1, 0, 1);
            chanceIs(x, 5, -hear - 2, 1, 1);
        }
        chanceIs(seeking(0, 1, 0, 40, 1, 0), 5, 5, 0, 1);
        chanceIs(seeking(0, 1, 0, 40, 1, 0), 5, 6, 1, 1);
        // 38 steps of 20 to the side, then 2 pulls.
        detourIs(seeking(0, 1, 0, 1, 1, 18), 40, 20, 38 * 20 + 19 + 18, 38 * 20 + 19 + 18);
        detourIs(seeking(0, 1, 0, 38, 1, 0), 40, 20, 20 + 190, 20 + 190);
        detourIs(seeking(0, 1, 0, 39, 1, 0), 40, 20, 190, 190);
        detourIs(seeking(0, 1, 0, 40, 1, 0), 40, 20, 190, 190);
    }

    private static void pulls() {
        says("OFF goes towards 0 by PULL (0 .. 3), not beyond it");
        refused(1, 1, 1, 1, -1, 1);
        refused(1, 1, 1, 1, 4, 1);
        refused(1, 1, 1, 1, MIN, 1);
        refused(1, 1, 1, 1, MAX, 1);
        for (int pull = 0; pull <= 3; pull++) {
            TunnelBook x = seeking(0, 1, 0, 40, pull, 0);
            for (int off = -4; off <= 4; off++) {
                int left = Math.max(0, Math.abs(off) - pull);
                chanceIs(x, 1, off, left == 0 ? 0 : 1, 1);
                TunnelBook wide = seeking(0, 1, 0, 40, pull, 20);
                detourIs(wide, 1, off, left, left);
            }
        }
        TunnelBook x = seeking(0, 0, 1, 40, 3, 0);
        detourIs(x, 3, 0, 0, 0);
        detourIs(x, 1, -2, 0, 0);
        detourIs(x, 1, -4, 0, 0);
        due("from -5", x.detour(1, -5, true), NONE);
        detourIs(x, 2, -5, 1, 1);
    }

    private static void missing() {
        says("At AHEAD 0 they MISS if OFF is above WIDE or below -WIDE (0 .. 20)");
        refused(1, 1, 1, 1, 1, -1);
        refused(1, 1, 1, 1, 1, 21);
        refused(1, 1, 1, 1, 1, MIN);
        refused(1, 1, 1, 1, 1, MAX);
        for (int wide = 0; wide <= 19; wide++) {
            TunnelBook x = seeking(0, 1, 0, 0, 0, wide);
            chanceIs(x, 1, wide, 0, 1);
            chanceIs(x, 1, -wide, 0, 1);
            chanceIs(x, 1, wide + 1, 1, 1);
            chanceIs(x, 1, -wide - 1, 1, 1);
            detourIs(x, 1, wide, wide, wide);
            due("detour of WIDE and one", x.detour(1, wide + 1, false), NONE);
            due("detour of -WIDE and one", x.detour(1, -wide - 1, true), NONE);
        }
        TunnelBook x = seeking(0, 0, 1, 0, 0, 20);
        chanceIs(x, 1, 19, 0, 1);
        chanceIs(x, 1, 20, 1, 1);
        TunnelBook y = seeking(1, 0, 0, 0, 0, 20);
        chanceIs(y, 1, -19, 0, 1);
        chanceIs(y, 1, -20, 1, 1);
        // Aside on the way, back at AHEAD 0.
        detourIs(seeking(1, 0, 1, 0, 0, 0), 2, 0, 1, 1);
        chanceIs(seeking(1, 0, 1, 0, 0, 0), 2, 0, 1, 2);
    }

    private static void chanceArguments() {
        says("AHEAD is 12 at most for CHANCE; OFF -20 .. 20; NONE for others");
        TunnelBook x = seeking(0, 1, 0, 0, 0, 0);
        chanceIs(x, 1, 0, 0, 1);
        chanceIs(x, 12, 0, 0, 1);
        chanceIs(x, 1, 20, 1, 1);
        chanceIs(x, 12, -20, 1, 1);
        for (int ahead : new int[] {0, -1, 13, 40, MIN, MAX}) {
            chanceIs(x, ahead, 0, NONE, NONE);
        }
        for (int off : new int[] {-21, 21, MIN, MAX}) {
            chanceIs(x, 1, off, NONE, NONE);
        }
    }

    private static void lowestTerms() {
        says("CHANCE: the WEIGHTS' products of all rows of steps (as a fraction in lowest terms)");
        chanceIs(new TunnelBook(), 12, 0, 457652, 531441);
        chanceIs(seeking(9, 9, 9, 0, 0, 0), 12, 0, 457652, 531441);
        chanceIs(seeking(9, 9, 9, 0, 0, 20), 12, 0, 0, 1);
        chanceIs(seeking(9, 9, 9, 0, 0, 0), 12, 13, 1, 1);
        chanceIs(seeking(9, 9, 9, 0, 0, 20), 12, 8, 0, 1);
        chanceIs(seeking(1, 1, 1, 0, 0, 20), 12, 9, 1, 531441);
        chanceIs(seeking(1, 1, 1, 0, 0, 20), 12, -9, 1, 531441);
        chanceIs(seeking(2, 0, 2, 0, 0, 0), 3, 1, 5, 8);
        chanceIs(seeking(9, 8, 8, 0, 0, 0), 12, 0, 51525435608853921L, 59604644775390625L);
        chanceIs(seeking(9, 8, 9, 0, 0, 3), 12, 0, 5399345479123053L, 23857239165420544L);
        chanceIs(seeking(8, 8, 9, 2, 1, 1), 12, 5, 37809430394105249L, 59604644775390625L);
    }

    private static void detourArguments() {
        says("two faces AHEAD steps apart (1 .. 40), one OFF to the side (-20 .. 20); detour: NONE for others");
        TunnelBook x = seeking(0, 1, 0, 0, 0, 20);
        detourIs(x, 1, 0, 0, 0);
        detourIs(x, 1, 20, 20, 20);
        detourIs(x, 1, -20, 20, 20);
        detourIs(x, 40, 20, 800, 800);
        detourIs(x, 40, -20, 800, 800);
        for (int ahead : new int[] {0, -1, 41, MIN, MAX}) {
            detourIs(x, ahead, 0, NONE, NONE);
        }
        TunnelBook near = seeking(0, 1, 0, 40, 3, 20);
        detourIs(near, 1, 20, 17, 17);
        detourIs(near, 1, -20, 17, 17);
        for (int off : new int[] {-21, 21, MIN, MAX}) {
            detourIs(x, 1, off, NONE, NONE);
            detourIs(near, 1, off, NONE, NONE);
        }
    }

    private static void detourRows() {
        says("DETOUR: the least and the greatest sum of |OFF| behind each step over all rows that don't MISS");
        TunnelBook x = new TunnelBook();
        detourIs(x, 1, 0, 0, 0);
        detourIs(x, 4, 0, 0, 4);
        detourIs(x, 5, 0, 0, 6);
        detourIs(x, 20, 20, 190, 190);
        detourIs(x, 20, -20, 190, 190);
        detourIs(x, 19, 20, NONE, NONE);
        detourIs(x, 19, -20, NONE, NONE);
        detourIs(x, 40, 20, 190, 690);
        detourIs(seeking(1, 1, 1, 0, 0, 20), 40, 20, 190, 800 + 210 + 190);
        // All to the one side, as far as 60.
        detourIs(seeking(0, 0, 1, 40, 0, 20), 40, -20, 190 + 210, 190 + 210);
        detourIs(seeking(0, 0, 1, 0, 0, 20), 40, -19, NONE, NONE);
        detourIs(seeking(0, 0, 1, 0, 0, 20), 40, 20, NONE, NONE);
        detourIs(seeking(1, 0, 0, 0, 0, 20), 40, -20, NONE, NONE);
    }

    private static void farDetours() {
        says("rows that go far to the side and are pulled back");
        // 31 steps to 51, then within HEAR 2 back a step (2) and 7 back 4 each: 49, 47, 43, .. 19.
        int out = 31 * 20 + 31 * 32 / 2;
        int back = 49 + 47 + 43 + 39 + 35 + 31 + 27 + 23 + 19;
        // 20 steps to 0, then 1 and 0 in turn as long as nothing is heard.
        int least = 190 + 6;
        detourIs(seeking(1, 0, 1, 8, 3, 20), 40, 20, least, out + back);
        detourIs(seeking(1, 0, 1, 8, 3, 20), 40, -20, least, out + back);
        // Only to the right: 29 steps from 20 to 49, then 11 heard ones, 2 back each: 47 .. 27, beyond WIDE 20.
        detourIs(seeking(0, 0, 1, 10, 3, 20), 40, 20, NONE, NONE);
        // 25 steps to 45, then 15 heard ones, 2 back each: 43, 41, .. 15.
        detourIs(seeking(0, 0, 1, 14, 3, 20), 40, 20, 25 * 20 + 25 * 26 / 2 + 15 * 29, 25 * 20 + 25 * 26 / 2 + 15 * 29);
        detourIs(seeking(1, 0, 0, 14, 3, 20), 40, -20, 25 * 20 + 25 * 26 / 2 + 15 * 29, 25 * 20 + 25 * 26 / 2 + 15 * 29);
        chanceIs(seeking(0, 0, 9, 0, 0, 20), 12, 20, 1, 1);
        chanceIs(seeking(0, 0, 9, 0, 0, 20), 12, 8, 0, 1);
        chanceIs(seeking(0, 0, 9, 0, 0, 20), 12, 9, 1, 1);
        chanceIs(seeking(9, 0, 0, 0, 0, 20), 12, -9, 1, 1);
    }

    private static void detourWeights() {
        says("and whose WEIGHTS aren't 0");
        detourIs(seeking(0, 0, 1, 0, 0, 0), 3, -3, 3, 3);
        detourIs(seeking(1, 0, 0, 0, 0, 0), 3, 3, 3, 3);
        detourIs(seeking(0, 1, 0, 0, 0, 0), 3, 0, 0, 0);
        detourIs(seeking(0, 1, 0, 0, 0, 0), 3, 1, NONE, NONE);
        detourIs(seeking(1, 0, 1, 0, 0, 0), 3, 0, NONE, NONE);
        detourIs(seeking(1, 0, 1, 0, 0, 0), 4, 0, 2, 4);
        detourIs(seeking(0, 1, 9, 0, 0, 0), 4, -2, 1, 5);
        detourIs(seeking(1, 1, 0, 0, 0, 0), 4, 2, 1, 5);
        detourIs(seeking(1, 1, 0, 0, 0, 0), 4, -1, NONE, NONE);
    }

    public static void main(String[] args) {
        atFirst();
        weights();
        hearing();
        pulls();
        missing();
        chanceArguments();
        lowestTerms();
        detourArguments();
        detourRows();
        farDetours();
        detourWeights();
        finish("SeekEdgesTest");
    }
}
