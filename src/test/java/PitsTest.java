import java.util.Arrays;

/** The promises 9 to 15: pits and phases. */
public final class PitsTest {
    private static final Class<IndexOutOfBoundsException> NO_BLOCK = IndexOutOfBoundsException.class;
    private static final Class<IllegalArgumentException> WRONG = IllegalArgumentException.class;
    private static final Class<UnsupportedOperationException> DUG = UnsupportedOperationException.class;

    private final Check check = new Check("PitsTest");

    public static void main(String[] args) {
        PitsTest test = new PitsTest();
        test.emptyPit();
        test.wholeMine();
        test.pitAboveALens();
        test.fewestBlocks();
        test.hardRock();
        test.edges();
        test.twoLensesShareTheirWaste();
        test.dugBlocksAreNoPart();
        test.eachQuestionAlone();
        test.wrongPrices();
        test.worthWith();
        test.phase();
        test.phasesOfBlocks();
        test.phasesFollowChanges();
        test.check.close();
    }

    /** That the best pit at a price is this one, worth this. */
    private void pit(String about, PitForge mine, int price, long worth, int... blocks) {
        check.same(about + ": pitWorth", mine.pitWorth(price), worth);
        check.same(about + ": pitSize", mine.pitSize(price), blocks.length);
        for (int b = 0; b < 60; b++) {
            int block = b;
            boolean in = Arrays.stream(blocks).anyMatch(i -> i == block);
            check.same(about + ": isInPit " + b, mine.isInPit(price, b), in);
        }
    }

    private void emptyPit() {
        pit("no samples", new PitForge(), 99, 0);
        pit("no price", Mines.sampledOut(), 0, 0);
        pit("a low price", Mines.sampledOut(), 2, 0);
        pit("a block worth nothing", Mines.withLens(4, 23), 10, 0);
    }

    private void wholeMine() {
        PitForge mine = Mines.sampledOut();
        check.same("the whole mine", mine.pitWorth(99), 60L * (99 * 99 - 200) - 10L * (30 + 40 + 50 + 60 + 70 + 80));
        check.same("all of it", mine.pitSize(99), 60);
        check.same("its first block", mine.isInPit(99, 0), true);
        check.same("its last block", mine.isInPit(99, 59), true);
    }

    private void pitAboveALens() {
        pit("level 0", Mines.withLens(4, 24), 10, 10, 4);
        pit("level 1", Mines.withLens(14, 34), 10, 10, 3, 4, 5, 14);
        pit("level 2", Mines.withLens(24, 99), 10, 990 - 200 - 50 - 3 * 40 - 5 * 30, 2, 3, 4, 5, 6, 13, 14, 15, 24);
    }

    private void fewestBlocks() {
        pit("a pit worth nothing", Mines.withLens(14, 33), 10, 0);
        pit("a deep pit worth nothing", Mines.withLens(24, 52), 10, 0);
        pit("a deep pit worth ten", Mines.withLens(24, 53), 10, 10, 2, 3, 4, 5, 6, 13, 14, 15, 24);
        PitForge two = Mines.withLens(4, 60);
        two.sample(9, 23);
        pit("a part worth nothing is left", two, 10, 370, 4);
    }

    private void hardRock() {
        PitForge mine = Mines.withLens(14, 27);
        mine.rock(14, 'h');
        pit("hard and worth nothing", mine, 10, 0);
        mine.sample(14, 29);
        pit("hard and worth ten", mine, 10, 10, 4, 14);
        mine.rock(14, 's');
        pit("soft again", mine, 10, 0);
        PitForge deep = Mines.withLens(24, 99);
        deep.rock(14, 'h');
        pit("hard between", deep, 10, 990 - 200 - 50 - 3 * 40 - 5 * 30, 2, 3, 4, 5, 6, 13, 14, 15, 24);
        deep.rock(24, 'h');
        pit("hard, hard above", deep, 10, 990 - 200 - 50 - 40 - 30, 4, 14, 24);
        deep.rock(14, 's');
        pit("hard, soft above", deep, 10, 990 - 200 - 50 - 40 - 3 * 30, 3, 4, 5, 14, 24);
    }

    private void edges() {
        pit("the left edge", Mines.withLens(20, 99), 10, 990 - 200 - 50 - 2 * 40 - 3 * 30, 0, 1, 2, 10, 11, 20);
        pit("the right edge", Mines.withLens(29, 99), 10, 990 - 200 - 50 - 2 * 40 - 3 * 30, 7, 8, 9, 18, 19, 29);
    }

    private void twoLensesShareTheirWaste() {
        PitForge mine = Mines.withLens(14, 32);
        pit("one alone is not enough", mine, 10, 0);
        mine.sample(15, 64);
        check.same("its mean is 32", mine.grade(15), 32);
        // 2 * (320 - 200 - 40) less four blocks of waste
        pit("two pay the shared waste", mine, 10, 2 * 80 - 4 * 30, 3, 4, 5, 6, 14, 15);
    }

    private void dugBlocksAreNoPart() {
        PitForge mine = Mines.withLens(14, 33);
        mine.sample(3, 99);
        mine.sample(3, 99);
        check.same("block 3 is worth it", mine.grade(3), 66);
        mine.phase(9);
        mine.set('s', 1);
        check.same("one block", mine.goOn(1), 1);
        check.same("it is 3", mine.isDug(3), true);
        pit("with one of four dug", mine, 10, 30, 4, 5, 14);
        check.same("worthWith as well", mine.worthWith(10, 14), 30L);
    }

    private void eachQuestionAlone() {
        check.same("pitWorth first", Mines.withLens(14, 34).pitWorth(10), 10L);
        check.same("pitSize first", Mines.withLens(14, 34).pitSize(10), 4);
        check.same("isInPit first", Mines.withLens(14, 34).isInPit(10, 14), true);
        PitForge mine = Mines.withLens(14, 34);
        check.same("at one price", mine.pitSize(10), 4);
        check.same("at a lower one", mine.pitSize(9), 0);
        check.same("in it at the first price", mine.isInPit(10, 5), true);
        check.same("not at the lower one", mine.isInPit(9, 5), false);
        check.same("its worth at the first price", mine.pitWorth(10), 10L);
        check.same("its worth at a higher one", mine.pitWorth(11), 34L * 11 - 200 - 40 - 90);
        mine.sample(14, 40);
        check.same("its worth behind a sample", mine.pitWorth(10), 370L - 330);
    }

    private void wrongPrices() {
        PitForge mine = new PitForge();
        for (int price : new int[] {-1, 100, Integer.MIN_VALUE, Integer.MAX_VALUE}) {
            check.fails("pitWorth at " + price, WRONG, () -> mine.pitWorth(price));
            check.fails("pitSize at " + price, WRONG, () -> mine.pitSize(price));
            check.fails("isInPit at " + price, WRONG, () -> mine.isInPit(price, 60));
            check.fails("worthWith at " + price, WRONG, () -> mine.worthWith(price, 60));
            check.fails("phase at " + price, WRONG, () -> mine.phase(price));
        }
        for (int block : new int[] {-1, 60, Integer.MIN_VALUE, Integer.MAX_VALUE}) {
            check.fails("isInPit of " + block, NO_BLOCK, () -> mine.isInPit(99, block));
            check.fails("worthWith of " + block, NO_BLOCK, () -> mine.worthWith(0, block));
            check.fails("phaseOf " + block, NO_BLOCK, () -> mine.phaseOf(block));
        }
    }

    private void worthWith() {
        PitForge mine = new PitForge();
        check.same("level 0", mine.worthWith(10, 5), -30L);
        check.same("a soft cone", mine.worthWith(10, 25), -50L - 3 * 40 - 5 * 30);
        check.same("the left edge", mine.worthWith(10, 20), -50L - 2 * 40 - 3 * 30);
        check.same("the right edge", mine.worthWith(10, 29), -50L - 2 * 40 - 3 * 30);
        check.same("the bottom", mine.worthWith(10, 54), -80L - 3 * 70 - 5 * 60 - 7 * 50 - 9 * 40 - 10 * 30);
        mine.rock(25, 'h');
        check.same("hard", mine.worthWith(10, 25), -50L - 40 - 3 * 30);
        mine.rock(15, 'h');
        check.same("all hard", mine.worthWith(10, 25), -50L - 40 - 30);
        mine.rock(25, 's');
        check.same("hard in the middle above", mine.worthWith(10, 25), -50L - 3 * 40 - 5 * 30);
        PitForge rich = Mines.withTruths();
        check.same("by the price", rich.worthWith(10, 10), 3L * 790 - 40 - 2 * 30);
        rich.goOn(1);
        check.same("less what has been dug", rich.worthWith(10, 10), 790L - 40);
        check.fails("of a dug block", DUG, () -> rich.worthWith(10, 0));
        check.fails("of a dug block at 100", WRONG, () -> rich.worthWith(100, 0));
        check.same("of the next", rich.worthWith(10, 3), 790L - 30);
    }

    private void phase() {
        PitForge mine = new PitForge();
        check.same("the first at 0", mine.phase(0), 1);
        check.fails("again at 0", WRONG, () -> mine.phase(0));
        check.same("the second", mine.phase(10), 2);
        check.fails("the same price", WRONG, () -> mine.phase(10));
        check.fails("a lower price", WRONG, () -> mine.phase(9));
        check.same("the third", mine.phase(11), 3);
        check.same("the fourth", mine.phase(98), 4);
        check.fails("a fifth", IllegalStateException.class, () -> mine.phase(99));
        check.fails("a fifth, not greater", WRONG, () -> mine.phase(98));
        check.fails("a fifth, out of range", WRONG, () -> mine.phase(100));
        check.same("clearPhases", mine.clearPhases(), 4);
        check.same("clearPhases again", mine.clearPhases(), 0);
        check.same("the first again, lower", mine.phase(5), 1);
        check.same("clearPhases of one", mine.clearPhases(), 1);
    }

    private void phasesOfBlocks() {
        PitForge mine = Mines.withLens(14, 50);
        mine.sample(18, 80);
        mine.sample(58, 90);
        mine.phase(4);
        mine.phase(6);
        mine.phase(7);
        mine.phase(99);
        check.same("worth it at 7: 350 - 200 - 40 - 90", mine.phaseOf(14), 2);
        check.same("above it", mine.phaseOf(3), 2);
        check.same("above it, too", mine.phaseOf(5), 2);
        check.same("worth it at 6: 480 - 200 - 40 - 90", mine.phaseOf(18), 1);
        check.same("above that", mine.phaseOf(9), 1);
        check.same("only at 99", mine.phaseOf(58), 3);
        mine.clearPhases();
        check.same("without phases", mine.phaseOf(14), -1);
        mine.phase(7);
        check.same("another first phase", mine.phaseOf(18), 0);
        check.same("in none", mine.phaseOf(44), -1);
    }

    private void phasesFollowChanges() {
        PitForge mine = Mines.withLens(14, 27);
        mine.phase(10);
        check.same("soft: in none", mine.phaseOf(14), -1);
        mine.rock(14, 'h');
        check.same("hard, worth nothing", mine.phaseOf(14), -1);
        mine.sample(14, 37);
        check.same("hard, 32", mine.phaseOf(14), 0);
        check.same("above", mine.phaseOf(4), 0);
        check.same("beside", mine.phaseOf(3), -1);
        mine.rock(14, 's');
        check.same("soft again", mine.phaseOf(14), -1);
        mine.rock(14, 'h');
        mine.set('s', 1);
        mine.goOn(1);
        check.same("dug", mine.phaseOf(4), -1);
        check.same("not dug", mine.phaseOf(14), 0);
        mine.rock(14, 's');
        check.same("soft, one of three dug: 320 - 200 - 40 - 60", mine.phaseOf(14), 0);
    }
}
