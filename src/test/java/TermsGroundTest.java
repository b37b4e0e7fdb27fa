/**
 * A test of its own for each sentence of 'Terms' that names a boundary case, from 'Blocks' to 'Phases'. Each one says
 * which sentence it holds.
 */
public final class TermsGroundTest {
    private final Check check = new Check("TermsGroundTest");

    public static void main(String[] args) {
        TermsGroundTest test = new TermsGroundTest();
        test.numbersOfBlocks();
        test.tensOfTons();
        test.softAtFirst();
        test.softNeedsThree();
        test.softAtTheLeftEnd();
        test.softAtTheRightEnd();
        test.hardNeedsOne();
        test.topLiesFree();
        test.fortySamples();
        test.gradesToldFrom0To99();
        test.ownSamples();
        test.farSamples();
        test.withoutSamples();
        test.orderOfSums();
        test.sumsByDoubles();
        test.roundedToTheEvenOne();
        test.milling();
        test.diggingByLevels();
        test.pitOfUndugBlocks();
        test.pitOfWhatLiesFree();
        test.greatestWorth();
        test.fewestBlocks();
        test.emptyPit();
        test.fourPhases();
        test.risingPrices();
        test.firstPhase();
        test.phasesOfUndugBlocks();
        test.check.close();
    }

    private void free(String about, PitForge mine, int block, boolean due) {
        check.same(about + ": isFree " + block, mine.isFree(block), due);
    }

    /** 'The mine is a section of the columns 0 to 9 and the levels 0 to 5 ..; 10 times its level plus its column.' */
    private void numbersOfBlocks() {
        PitForge mine = new PitForge();
        for (int level = 0; level <= 5; level++) {
            for (int column = 0; column <= 9; column++) {
                check.same("worth by the level", mine.worth(10 * level + column, 0), -30 - 10 * level);
            }
        }
        check.fails("a block behind the last", IndexOutOfBoundsException.class, () -> mine.worth(60, 0));
        check.fails("a block ahead of the first", IndexOutOfBoundsException.class, () -> mine.worth(-1, 0));
    }

    /** 'Each block has 10 tons': none, one, all. */
    private void tensOfTons() {
        PitForge mine = Mines.withTruths();
        mine.set('p', 0);
        check.same("none", mine.tons('s'), 0);
        mine.set('s', 1);
        mine.goOn(1);
        check.same("one", mine.tons('s'), 10);
        mine.set('s', 10);
        mine.set('w', 99);
        mine.goOn(6);
        check.same("all", mine.tons('s'), 600);
    }

    /** 'and its rock, 's' soft, as at first, or 'h' hard'. */
    private void softAtFirst() {
        PitForge mine = new PitForge();
        for (int block = 0; block < 60; block++) {
            check.same("rock " + block, mine.rock(block, 'h'), 's');
            check.same("rock again " + block, mine.rock(block, 's'), 'h');
        }
    }

    /** 'A soft block lies free if the block above it and those left and right of that one have been dug'. */
    private void softNeedsThree() {
        free("all three", Mines.dugAtTop(3, 4, 5), 14, true);
        free("not the left one", Mines.dugAtTop(4, 5), 14, false);
        free("not the one above", Mines.dugAtTop(3, 5), 14, false);
        free("not the right one", Mines.dugAtTop(3, 4), 14, false);
        free("none", Mines.dugAtTop(), 14, false);
        free("all others", Mines.dugAtTop(0, 1, 2, 6, 7, 8, 9), 14, false);
    }

    /** '.. as far as there are such blocks': the column 0, whose number less 1 is that of another level. */
    private void softAtTheLeftEnd() {
        free("both", Mines.dugAtTop(0, 1), 10, true);
        free("not the one above", Mines.dugAtTop(1), 10, false);
        free("not the right one", Mines.dugAtTop(0), 10, false);
        free("the second column, not the left one", Mines.dugAtTop(1, 2), 11, false);
        PitForge deep = Mines.withLens(20, 99);
        deep.phase(10);
        deep.set('s', 5);
        check.same("the five above", deep.goOn(1), 5);
        check.same("not at the right end", deep.isDug(9), false);
        free("level 2", deep, 20, true);
        check.same("nothing more to dig ahead", deep.worthWith(10, 20), 990L - 200 - 50);
    }

    /** '.. as far as there are such blocks': the column 9, whose number plus 1 is that of another level. */
    private void softAtTheRightEnd() {
        free("both", Mines.dugAtTop(8, 9), 19, true);
        free("not the one above", Mines.dugAtTop(8), 19, false);
        free("not the left one", Mines.dugAtTop(9), 19, false);
        free("the last but one, not the right one", Mines.dugAtTop(7, 8), 18, false);
        PitForge deep = Mines.withLens(29, 99);
        deep.phase(10);
        deep.set('s', 5);
        check.same("the five above", deep.goOn(1), 5);
        check.same("not at the left end", deep.isDug(10), false);
        free("level 2", deep, 29, true);
        check.same("nothing more to dig ahead", deep.worthWith(10, 29), 990L - 200 - 50);
    }

    /** 'a hard one if the block above it has.' */
    private void hardNeedsOne() {
        int[][] ofLevelOne = {{10, 0, 1}, {14, 4, 3}, {14, 4, 5}, {19, 9, 8}};
        for (int[] blocks : ofLevelOne) {
            PitForge mine = Mines.dugAtTop(blocks[1]);
            free("soft, just the one above", mine, blocks[0], false);
            mine.rock(blocks[0], 'h');
            free("hard, just the one above", mine, blocks[0], true);
            mine.rock(blocks[0], 's');
            free("soft again", mine, blocks[0], false);
            PitForge beside = Mines.dugAtTop(blocks[2]);
            beside.rock(blocks[0], 'h');
            free("hard, just the one beside", beside, blocks[0], false);
        }
        PitForge both = Mines.dugAtTop(3, 5);
        both.rock(14, 'h');
        free("hard, all but the one above", both, 14, false);
    }

    /** 'Blocks of the level 0 lie free.' */
    private void topLiesFree() {
        PitForge mine = new PitForge();
        for (int block = 0; block < 60; block++) {
            free("soft", mine, block, block < 10);
            mine.rock(block, 'h');
            free("hard", mine, block, block < 10);
        }
    }

    /** 'At most 40 samples are told'. */
    private void fortySamples() {
        PitForge mine = new PitForge();
        for (int n = 1; n <= 39; n++) {
            mine.sample(0, 0);
        }
        check.same("the last one", mine.sample(59, 99), 40);
        check.same("it counts", mine.grade(59), 99);
        check.fails("one more", IllegalStateException.class, () -> mine.sample(59, 0));
        check.same("it does not count", mine.grade(59), 99);
    }

    /** 'each of a block with a grade, 0 to 99.' */
    private void gradesToldFrom0To99() {
        PitForge mine = new PitForge();
        mine.sample(0, 0);
        mine.sample(59, 99);
        check.same("0", mine.grade(0), 0);
        check.same("99", mine.grade(59), 99);
        check.fails("-1", IllegalArgumentException.class, () -> mine.sample(0, -1));
        check.fails("100", IllegalArgumentException.class, () -> mine.sample(59, 100));
    }

    /** 'A block with samples has the grade that is the mean of them': one, also of grade 0, or many. */
    private void ownSamples() {
        PitForge mine = new PitForge();
        mine.sample(4, 90);
        mine.sample(24, 90);
        mine.sample(14, 0);
        check.same("one of grade 0 among others", mine.grade(14), 0);
        mine.sample(14, 60);
        mine.sample(14, 30);
        check.same("three", mine.grade(14), 30);
        check.same("another block's one", mine.grade(4), 90);
        PitForge full = new PitForge();
        for (int n = 0; n < 40; n++) {
            full.sample(33, n < 39 ? 50 : 90);
        }
        check.same("all forty", full.grade(33), 51);
    }

    /** 'the square of the difference of columns plus 4 times that of levels': the nearest and the farthest blocks. */
    private void farSamples() {
        PitForge near = new PitForge();
        near.sample(10, 90);
        near.sample(1, 0);
        // squares of 1 and 4: 90 / (1 + 1/4)
        check.same("a column against a level", near.grade(11), 72);
        PitForge ends = new PitForge();
        ends.sample(9, 90);
        ends.sample(0, 10);
        // squares of 81 + 4 and 4: (90/85 + 10/4) / (1/85 + 1/4); the number 9 is no neighbour of the number 10
        check.same("the left end of the next level", ends.grade(10), 14);
        PitForge far = new PitForge();
        far.sample(0, 90);
        far.sample(9, 0);
        // squares of 81 + 100 and 100: (90/181) / (1/181 + 1/100)
        check.same("the farthest corner", far.grade(59), 32);
        PitForge alone = new PitForge();
        alone.sample(0, 77);
        check.same("one sample, the farthest corner", alone.grade(59), 77);
    }

    /** '0 without samples.' */
    private void withoutSamples() {
        PitForge mine = new PitForge();
        for (int block = 0; block < 60; block++) {
            check.same("grade " + block, mine.grade(block), 0);
        }
        mine.tellTruth(5, 80);
        check.same("a truth is no sample", mine.grade(5), 0);
        check.same("worth at the highest price", mine.worth(5, 99), -30);
    }

    private void grade(String about, int block, int due, int... samples) {
        PitForge mine = new PitForge();
        for (int i = 0; i < samples.length; i += 2) {
            mine.sample(samples[i], samples[i + 1]);
        }
        check.same(about, mine.grade(block), due);
    }

    /** 'Sums go in the order of the samples': means that are a half but for the last digits, which hang on the order. */
    private void orderOfSums() {
        grade("59.5 in this order", 25, 59, 7, 81, 43, 48, 34, 57);
        grade("59.5 backwards", 25, 60, 34, 57, 43, 48, 7, 81);
        grade("59.5 by rising blocks", 25, 60, 7, 81, 34, 57, 43, 48);
        grade("62.5 in this order", 33, 63, 39, 47, 3, 24, 30, 76);
        grade("62.5 backwards", 33, 62, 30, 76, 3, 24, 39, 47);
        grade("85.5 in this order", 0, 85, 2, 69, 13, 85, 26, 68, 1, 90);
        grade("85.5 by rising blocks", 0, 86, 1, 90, 2, 69, 13, 85, 26, 68);
    }

    /** '.. by doubles': floats would miss the half. */
    private void sumsByDoubles() {
        grade("83.5", 33, 84, 31, 93, 15, 36);
        grade("62.5", 50, 62, 59, 76, 29, 43);
    }

    /** 'rounded to the nearest whole number, of two as near to the even one.' */
    private void roundedToTheEvenOne() {
        grade("0.5", 7, 0, 7, 0, 7, 1);
        grade("1.5", 7, 2, 7, 1, 7, 2);
        grade("97.5", 7, 98, 7, 97, 7, 98);
        grade("98.5", 7, 98, 7, 98, 7, 99);
        grade("a third", 7, 0, 7, 0, 7, 0, 7, 1);
        grade("two thirds", 7, 1, 7, 0, 7, 1, 7, 1);
        grade("98 and two thirds", 7, 99, 7, 98, 7, 99, 7, 99);
        grade("10.5 between two", 1, 10, 0, 10, 2, 11);
        grade("11.5 between two", 1, 12, 0, 11, 2, 12);
    }

    private void worth(String about, int grade, int price, int due) {
        PitForge mine = new PitForge();
        mine.sample(0, grade);
        check.same(about, mine.worth(0, price), due);
    }

    /** 'the grade times p, less 200 for milling, if this is above 0'. */
    private void milling() {
        worth("198 are less than the milling", 99, 2, -30);
        worth("200 are the milling", 50, 4, -30);
        worth("201 are one more", 67, 3, -29);
        worth("230 are the milling and the digging", 46, 5, 0);
        worth("nothing at the highest price", 0, 99, -30);
        worth("the highest grade at no price", 99, 0, -30);
        worth("the most", 99, 99, 9801 - 200 - 30);
    }

    /** 'less its digging: 30, and 10 for each level.' */
    private void diggingByLevels() {
        PitForge mine = Mines.sampledOut();
        int[] digging = {30, 40, 50, 60, 70, 80};
        for (int block = 0; block < 60; block++) {
            check.same("ore " + block, mine.worth(block, 10), 790 - digging[block / 10]);
            check.same("waste " + block, mine.worth(block, 0), -digging[block / 10]);
        }
    }

    private void pit(String about, PitForge mine, int price, long worth, int size) {
        check.same(about + ": pitWorth", mine.pitWorth(price), worth);
        check.same(about + ": pitSize", mine.pitSize(price), size);
    }

    /** 'A set of blocks that have not been dug is a pit if ..': dug blocks cost nothing and bring nothing. */
    private void pitOfUndugBlocks() {
        PitForge mine = Mines.dugAtTop(3, 4, 5);
        check.same("a dug block of grade 99", mine.isInPit(99, 4), false);
        mine.sample(24, 99);
        // the mean of 0 and 99 is 50; above it, 13, 14, 15 and 2, 6 are left
        pit("below dug blocks", mine, 10, 500 - 200 - 50 - 3 * 40 - 2 * 30, 6);
        PitForge all = Mines.withTruths();
        all.set('s', 10);
        all.set('w', 99);
        all.goOn(6);
        pit("all dug", all, 99, 0, 0);
        check.same("all dug: isInPit", all.isInPit(99, 59), false);
    }

    /** '.. each block of it would lie free when all others of it had been dug'. */
    private void pitOfWhatLiesFree() {
        PitForge mine = Mines.withLens(14, 99);
        pit("soft", mine, 10, 750 - 90, 4);
        mine.rock(14, 'h');
        pit("hard", mine, 10, 750 - 30, 2);
        mine.rock(4, 'h');
        pit("a hard one of the level 0 above", mine, 10, 750 - 30, 2);
        pit("the left end", Mines.withLens(10, 99), 10, 750 - 60, 3);
        pit("the right end", Mines.withLens(19, 99), 10, 750 - 60, 3);
    }

    /** 'The best pit at a price is the one with the greatest worth'. */
    private void greatestWorth() {
        pit("ten above nothing", Mines.withLens(14, 34), 10, 10, 4);
        PitForge two = Mines.withLens(14, 34);
        two.sample(4, 99);
        check.same("the mean of 0 and 99 above", two.grade(4), 50);
        pit("both, with two of waste", two, 10, 270 + 100 - 2 * 30, 4);
        pit("the upper one alone", two, 6, 300 - 200 - 30, 1);
        pit("all at the highest price", Mines.sampledOut(), 99, 60L * 9601 - 10 * 330, 60);
    }

    /** 'of several the one with the fewest blocks'. */
    private void fewestBlocks() {
        PitForge mine = Mines.withLens(14, 24);
        mine.sample(4, 60);
        mine.rock(14, 'h');
        check.same("the lower block is worth nothing", mine.worth(14, 10), 0);
        check.same("the upper block is left at 30", mine.grade(4), 30);
        pit("without the lower one", mine, 10, 70, 1);
        pit("a block worth nothing alone", Mines.withLens(4, 23), 10, 0, 0);
        pit("four worth nothing together", Mines.withLens(14, 33), 10, 0, 0);
        for (int end : new int[] {0, 9}) {
            PitForge far = Mines.withLens(end, 23);
            far.sample(9 - end, 40);
            check.same("worth nothing at one end", far.isInPit(10, end), false);
            check.same("worth something at the other", far.isInPit(10, 9 - end), true);
        }
    }

    /** 'the empty one is worth 0.' */
    private void emptyPit() {
        pit("without samples", new PitForge(), 99, 0, 0);
        pit("at the price 0", Mines.sampledOut(), 0, 0, 0);
        pit("ten below nothing", Mines.withLens(14, 32), 10, 0, 0);
    }

    /** 'There are up to 4 phases': the fourth is one, a fifth is not told. */
    private void fourPhases() {
        PitForge mine = Mines.withLens(4, 50);
        for (int price = 1; price <= 3; price++) {
            check.same("phase " + price, mine.phase(price), price);
        }
        check.same("no phase reaches it", mine.phaseOf(4), -1);
        check.same("the last", mine.phase(5), 4);
        check.same("the last one's block", mine.phaseOf(4), 3);
        check.fails("one more", IllegalStateException.class, () -> mine.phase(99));
    }

    /** '.. told by rising prices.' */
    private void risingPrices() {
        PitForge mine = new PitForge();
        check.same("the least price", mine.phase(0), 1);
        check.fails("the same", IllegalArgumentException.class, () -> mine.phase(0));
        check.same("one more", mine.phase(1), 2);
        check.same("the highest", mine.phase(99), 3);
        check.fails("the highest again", IllegalArgumentException.class, () -> mine.phase(99));
        PitForge high = new PitForge();
        check.same("the highest as the first", high.phase(99), 1);
        check.fails("nothing is greater", IllegalArgumentException.class, () -> high.phase(98));
    }

    /** 'A block is in the first phase in whose price's best pit it is'. */
    private void firstPhase() {
        PitForge mine = Mines.withLens(4, 46);
        mine.sample(9, 58);
        mine.phase(4);
        mine.phase(5);
        mine.phase(6);
        check.same("232 - 230 at 4", mine.phaseOf(9), 0);
        check.same("nothing at 5, 276 - 230 at 6", mine.phaseOf(4), 2);
        check.same("in no pit", mine.phaseOf(0), -1);
        check.same("in the pits of all later ones, too", mine.isInPit(6, 9), true);
    }

    /** '.. of those that have not been dug.' */
    private void phasesOfUndugBlocks() {
        PitForge mine = Mines.withLens(14, 99);
        mine.phase(10);
        mine.set('s', 3);
        check.same("ahead", mine.phaseOf(4), 0);
        mine.goOn(1);
        check.same("a dug one", mine.phaseOf(4), -1);
        check.same("one that has not been dug", mine.phaseOf(14), 0);
        mine.goOn(1);
        check.same("dug as well", mine.phaseOf(14), -1);
    }
}
