/** The promises 1 to 8: a new object, blocks and model. */
public final class BlocksTest {
    private static final Class<IndexOutOfBoundsException> NO_BLOCK = IndexOutOfBoundsException.class;
    private static final Class<IllegalArgumentException> WRONG = IllegalArgumentException.class;
    private static final Class<UnsupportedOperationException> DUG = UnsupportedOperationException.class;

    private final Check check = new Check("BlocksTest");

    public static void main(String[] args) {
        BlocksTest test = new BlocksTest();
        test.newObject();
        test.rock();
        test.sample();
        test.blastsCountAsSamples();
        test.tellTruth();
        test.gradeOfOwnSamples();
        test.gradeByDistance();
        test.gradeInTheOrderOfSamples();
        test.worth();
        test.isFree();
        test.isDug();
        test.check.close();
    }

    private void newObject() {
        PitForge mine = new PitForge();
        for (int b = 0; b < 60; b++) {
            check.same("new grade " + b, mine.grade(b), 0);
            check.same("new isDug " + b, mine.isDug(b), false);
            check.same("new isFree " + b, mine.isFree(b), b < 10);
            check.same("new phaseOf " + b, mine.phaseOf(b), -1);
            check.same("new tellTruth " + b, mine.tellTruth(b, 5), -1);
            check.same("new rock " + b, mine.rock(b, 's'), 's');
        }
        check.same("new clearPhases", mine.clearPhases(), 0);
        check.same("new week", mine.week(), 0);
        check.same("new stock", mine.stock(), 0);
        check.same("new stockGrades", mine.stockGrades(), 0);
        check.same("new water", mine.water(), 0);
        check.same("new metal", mine.metal(), 0L);
        check.same("new money", mine.money(), 0L);
        check.same("new tons", mine.tons('p') + mine.tons('s') + mine.tons('d'), 0);
        check.same("new isBalanced", mine.isBalanced(), true);
        check.same("new dugShare", mine.dugShare(), 0.0f);
        check.same("new mix", mine.mix(false), false);
        check.same("new sample", mine.sample(0, 0), 1);
        check.same("another new object", new PitForge().sample(0, 0), 1);
    }

    private void rock() {
        PitForge mine = Mines.withTruths(50);
        check.same("rock 59", mine.rock(59, 'h'), 's');
        check.same("rock 59 again", mine.rock(59, 's'), 'h');
        check.same("rock 59 once more", mine.rock(59, 's'), 's');
        check.fails("rock -1", NO_BLOCK, () -> mine.rock(-1, 's'));
        check.fails("rock 60", NO_BLOCK, () -> mine.rock(60, 's'));
        check.fails("rock 60 of no kind", NO_BLOCK, () -> mine.rock(60, 'x'));
        check.fails("rock of no kind", WRONG, () -> mine.rock(3, 'x'));
        check.fails("rock in capitals", WRONG, () -> mine.rock(3, 'H'));
        check.same("rock 3 stays", mine.rock(3, 'h'), 's');
        mine.goOn(1);
        check.fails("rock of a dug block", DUG, () -> mine.rock(0, 'h'));
        check.fails("rock of no kind, dug", WRONG, () -> mine.rock(0, 'x'));
        check.same("rock of the next block", mine.rock(4, 'h'), 's');
    }

    private void sample() {
        PitForge mine = new PitForge();
        check.same("sample 0", mine.sample(0, 0), 1);
        check.same("sample 59", mine.sample(59, 99), 2);
        check.fails("sample -1", NO_BLOCK, () -> mine.sample(-1, 5));
        check.fails("sample 60", NO_BLOCK, () -> mine.sample(60, 100));
        check.fails("sample of -1", WRONG, () -> mine.sample(5, -1));
        check.fails("sample of 100", WRONG, () -> mine.sample(5, 100));
        for (int n = 3; n <= 40; n++) {
            check.same("sample number " + n, mine.sample(7, 20), n);
        }
        check.fails("sample 41", IllegalStateException.class, () -> mine.sample(7, 99));
        check.fails("sample 41 of 100", WRONG, () -> mine.sample(7, 100));
        check.fails("sample 41 of 60", NO_BLOCK, () -> mine.sample(60, 1));
        check.same("the grade stays", mine.grade(7), 20);
    }

    private void blastsCountAsSamples() {
        PitForge mine = new PitForge();
        mine.sample(0, 99);
        mine.phase(50);
        mine.tellTruth(0, 40);
        mine.tellTruth(2, 99);
        mine.goOn(1);
        check.same("samples behind two blasts", mine.sample(59, 99), 4);
        check.same("a dug block may be sampled", mine.sample(1, 97), 5);
        check.same("the blast is a sample beside another", mine.grade(0), 70);
        check.same("the blast is the only sample", mine.grade(2), 99);
        PitForge full = Mines.withTruths(0, 0, 0);
        full.goOn(1);
        check.same("no blast behind 40 samples", full.grade(0), 99);
        PitForge almost = new PitForge();
        for (int i = 0; i < 39; i++) {
            almost.sample(0, 99);
        }
        almost.phase(50);
        almost.tellTruth(1, 19);
        almost.tellTruth(2, 29);
        almost.goOn(1);
        check.same("the 40th sample is a blast", almost.grade(1), 19);
        check.same("the 41st is none", almost.grade(2) != 29, true);
        check.fails("sample behind it", IllegalStateException.class, () -> almost.sample(3, 3));
    }

    private void tellTruth() {
        PitForge mine = Mines.withTruths();
        check.same("tellTruth 0", mine.tellTruth(0, 0), -1);
        check.same("tellTruth 0 again", mine.tellTruth(0, 99), 0);
        check.same("tellTruth 59", mine.tellTruth(59, 99), -1);
        check.same("tellTruth 59 again", mine.tellTruth(59, 98), 99);
        check.fails("tellTruth -1", NO_BLOCK, () -> mine.tellTruth(-1, 5));
        check.fails("tellTruth 60", NO_BLOCK, () -> mine.tellTruth(60, 100));
        check.fails("tellTruth of -1", WRONG, () -> mine.tellTruth(5, -1));
        check.fails("tellTruth of 100", WRONG, () -> mine.tellTruth(5, 100));
        check.same("tellTruth 5 stays", mine.tellTruth(5, 1), -1);
        check.same("the model knows nothing of it", mine.grade(5), 99);
        mine.goOn(1);
        check.fails("tellTruth of a dug block", DUG, () -> mine.tellTruth(0, 5));
        check.fails("tellTruth of 100, dug", WRONG, () -> mine.tellTruth(0, 100));
    }

    private void gradeOfOwnSamples() {
        PitForge mine = new PitForge();
        check.fails("grade -1", NO_BLOCK, () -> mine.grade(-1));
        check.fails("grade 60", NO_BLOCK, () -> mine.grade(60));
        mine.sample(14, 60);
        mine.sample(14, 61);
        check.same("60.5 goes to the even one", mine.grade(14), 60);
        mine.sample(15, 61);
        mine.sample(15, 62);
        check.same("61.5 goes to the even one", mine.grade(15), 62);
        mine.sample(16, 0);
        mine.sample(16, 1);
        mine.sample(16, 1);
        check.same("two thirds", mine.grade(16), 1);
        mine.sample(16, 0);
        mine.sample(16, 0);
        check.same("two fifths", mine.grade(16), 0);
    }

    private void gradeByDistance() {
        PitForge columns = new PitForge();
        columns.sample(0, 10);
        check.same("one sample", columns.grade(59), 10);
        columns.sample(2, 11);
        check.same("10.5 between", columns.grade(1), 10);
        check.same("at a sample", columns.grade(2), 11);
        PitForge uneven = new PitForge();
        uneven.sample(0, 11);
        uneven.sample(2, 12);
        check.same("11.5 between", uneven.grade(1), 12);
        PitForge levels = new PitForge();
        levels.sample(0, 0);
        levels.sample(20, 90);
        check.same("in the middle of levels", levels.grade(10), 45);
        // squares of 1 and 1 + 4 * 4: (90 / 17) / (1 + 1 / 17)
        check.same("a column off", levels.grade(1), 5);
        // squares of 9 * 9 and 9 * 9 + 16: (90 / 97) / (1 / 81 + 1 / 97)
        check.same("nine columns off", levels.grade(9), 41);
        // squares of 100 and 36: (90 / 36) / (1 / 100 + 1 / 36)
        check.same("at the bottom", levels.grade(50), 66);
    }

    private void gradeInTheOrderOfSamples() {
        int[][] near = {{1, 63}, {3, 62}, {10, 0}, {14, 77}, {25, 31}, {47, 99}, {33, 18}};
        for (int block = 0; block < 60; block++) {
            PitForge mine = new PitForge();
            double sum = 0.0;
            double weights = 0.0;
            boolean own = false;
            for (int[] s : near) {
                mine.sample(s[0], s[1]);
                int x = s[0] % 10 - block % 10;
                int y = s[0] / 10 - block / 10;
                own |= s[0] == block;
                double weight = 1.0 / (x * x + 4 * y * y);
                sum += weight * s[1];
                weights += weight;
            }
            if (!own) {
                check.same("grade of " + block, mine.grade(block), (int) Math.rint(sum / weights));
            }
        }
    }

    private void worth() {
        PitForge mine = new PitForge();
        check.same("no grade, level 0", mine.worth(0, 10), -30);
        check.same("no grade, level 5", mine.worth(50, 99), -80);
        mine.sample(14, 20);
        check.same("just the milling", mine.worth(14, 10), -40);
        check.same("less than the milling", mine.worth(14, 9), -40);
        check.same("one above the milling", mine.worth(14, 11), -20);
        check.same("no price", mine.worth(14, 0), -40);
        check.same("the highest price", mine.worth(14, 99), 1980 - 200 - 40);
        check.same("by the model", mine.worth(59, 99), 1980 - 200 - 80);
        check.fails("worth -1", NO_BLOCK, () -> mine.worth(-1, 100));
        check.fails("worth 60", NO_BLOCK, () -> mine.worth(60, 5));
        check.fails("price -1", WRONG, () -> mine.worth(0, -1));
        check.fails("price 100", WRONG, () -> mine.worth(0, 100));
        PitForge dug = Mines.withTruths(5);
        dug.goOn(1);
        check.same("a dug block, by the model", dug.worth(0, 10), 990 - 200 - 30);
    }

    private void isFree() {
        PitForge mine = Mines.withTruths();
        mine.rock(11, 'h');
        mine.rock(19, 'h');
        check.fails("isFree -1", NO_BLOCK, () -> mine.isFree(-1));
        check.fails("isFree 60", NO_BLOCK, () -> mine.isFree(60));
        check.same("level 0", mine.isFree(9), true);
        check.same("hard, nothing dug", mine.isFree(11), false);
        mine.set('s', 1);
        mine.goOn(1);
        check.same("a dug block", mine.isFree(0), false);
        check.same("at the edge, one of two dug", mine.isFree(10), false);
        mine.goOn(1);
        check.same("at the edge, two of two dug", mine.isFree(10), true);
        check.same("hard, the one above dug", mine.isFree(11), true);
        mine.rock(11, 's');
        check.same("soft, two of three dug", mine.isFree(11), false);
        mine.goOn(1);
        check.same("soft, three of three dug", mine.isFree(11), true);
        mine.goOn(6);
        check.same("the right edge, hard, not dug above", mine.isFree(19), false);
        mine.goOn(1);
        check.same("the right edge, hard, dug above", mine.isFree(19), true);
        mine.rock(19, 's');
        check.same("the right edge, soft", mine.isFree(19), true);
        check.same("level 2", mine.isFree(20), false);
    }

    private void isDug() {
        PitForge mine = Mines.withTruths();
        check.fails("isDug -1", NO_BLOCK, () -> mine.isDug(-1));
        check.fails("isDug 60", NO_BLOCK, () -> mine.isDug(60));
        check.same("isDug ahead", mine.isDug(0), false);
        mine.goOn(1);
        check.same("isDug 0", mine.isDug(0), true);
        check.same("isDug 2", mine.isDug(2), true);
        check.same("isDug 3", mine.isDug(3), false);
        mine.set('w', 99);
        mine.goOn(20);
        check.same("isDug 59", mine.isDug(59), true);
    }
}
