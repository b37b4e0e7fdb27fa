import java.util.Arrays;

/** A test of its own for each sentence of 'Terms' about the stockpile, which has many ends: empty, one block, full, a heap. */
public final class TermsPileTest {
    private final Check check = new Check("TermsPileTest");

    public static void main(String[] args) {
        TermsPileTest test = new TermsPileTest();
        test.takesAsLongAsItHasRoom();
        test.takesWhatCameThisWeek();
        test.takesUntilItIsEmpty();
        test.givesWhatCameFirst();
        test.allSixtyBlocks();
        test.emptyAndFilledAgain();
        test.meanRoundedDown();
        test.sumLessByThis();
        test.oneBlockThatMixes();
        test.nothingToMix();
        test.mixesWhatCameThisWeek();
        test.heapWhenItDoesNotMix();
        test.heapMeanEachTime();
        test.heapAheadOfLaterBlocks();
        test.formerHeapIncluded();
        test.noHeapWithoutGiving();
        test.heapUsedUpWhileMixing();
        test.severalOfAHeapInAWeek();
        test.heapAndLayersInAWeek();
        test.check.close();
    }

    /** A mine whose stockpile has these grades in this order, up to ten; nothing is dug and the plant has room for one. */
    private static PitForge stocked(int... grades) {
        PitForge mine = Mines.withTruths();
        mine.set('l', 0);
        mine.set('r', 0);
        add(mine, grades);
        return mine;
    }

    /** Brings these grades to the stockpile, behind what it has, in a week in which the plant takes nothing. */
    private static void add(PitForge mine, int... grades) {
        int next = Math.round(mine.dugShare() * 60);
        for (int grade : grades) {
            mine.tellTruth(next, grade);
            next++;
        }
        mine.set('p', 0);
        mine.set('s', grades.length);
        mine.goOn(1);
        mine.set('s', 0);
        mine.set('p', 1);
    }

    /** That the stockpile gives these grades, one each week. */
    private void gives(String about, PitForge mine, int... due) {
        for (int i = 0; i < due.length; i++) {
            int blocks = mine.stock();
            int sum = mine.stockGrades();
            mine.goOn(1);
            check.same(about + ", grade " + i, sum - mine.stockGrades(), due[i]);
            check.same(about + ", one block less " + i, blocks - mine.stock(), 1);
        }
    }

    private void empty(String about, PitForge mine) {
        check.same(about + ": stock", mine.stock(), 0);
        check.same(about + ": stockGrades", mine.stockGrades(), 0);
        int fed = mine.tons('p');
        mine.set('p', 10);
        mine.goOn(1);
        check.same(about + ": nothing more for the plant", mine.tons('p'), fed);
        mine.set('p', 1);
    }

    /** 'Behind the digging, the plant takes blocks out of the stockpile as long as it has room.' */
    private void takesAsLongAsItHasRoom() {
        int[] left = {5, 4, 3, 2, 1, 0, 0};
        for (int room = 0; room < left.length; room++) {
            PitForge mine = stocked(10, 20, 30, 40, 50);
            mine.set('p', room);
            mine.goOn(1);
            check.same("room for " + room, mine.stock(), left[room]);
        }
        PitForge dug = stocked(10, 11, 12);
        dug.set('p', 3);
        dug.set('s', 2);
        dug.goOn(1);
        check.same("two were dug for the plant: room for one", dug.stock(), 2);
        dug.set('s', 3);
        dug.goOn(1);
        check.same("three were dug for it: no room", dug.stock(), 2);
        dug.set('s', 4);
        dug.goOn(1);
        check.same("four were dug, one of them without room", dug.stock(), 3);
    }

    /** The same: a block below the cut-off comes to the plant in the week in which it was dug. */
    private void takesWhatCameThisWeek() {
        PitForge mine = Mines.withTruths(15, 9, 14);
        mine.goOn(1);
        check.same("its place", mine.wentTo(0), 's');
        check.same("nothing stays in stock", mine.stock(), 0);
        check.same("it is in the plant", mine.tons('p'), 20);
        check.same("the mean of 15 and 14", mine.meanFed(), 14.5);
    }

    /** The same: with more room than blocks, and with no blocks at all. */
    private void takesUntilItIsEmpty() {
        PitForge mine = stocked(10, 20);
        mine.set('p', 10);
        mine.goOn(1);
        empty("two taken", mine);
        empty("never filled", new PitForge());
    }

    /** 'The stockpile gives what came first'. */
    private void givesWhatCameFirst() {
        PitForge mine = stocked(30, 10, 99, 0, 50);
        gives("by turns", mine, 30, 10);
        add(mine, 20, 98);
        gives("and those that came later", mine, 99, 0, 50, 20, 98);
        empty("at last", mine);
    }

    /** The same with the stockpile as full as it can be: all blocks of the mine. */
    private void allSixtyBlocks() {
        PitForge mine = Mines.withTruths();
        for (int block = 0; block < 60; block++) {
            mine.tellTruth(block, 99 - block);
        }
        mine.set('l', 0);
        mine.set('p', 0);
        mine.set('r', 0);
        mine.set('s', 10);
        check.same("all of them", mine.goOn(6), 60);
        check.same("stock", mine.stock(), 60);
        check.same("stockGrades", mine.stockGrades(), 60 * 99 - 59 * 60 / 2);
        mine.set('p', 1);
        for (int block = 0; block < 60; block++) {
            gives("of sixty, " + block, mine, 99 - block);
        }
        empty("of sixty", mine);
    }

    /** The same: emptied in each week and filled again. */
    private void emptyAndFilledAgain() {
        PitForge mine = stocked();
        for (int round = 0; round < 12; round++) {
            int[] grades = {round, 50 + round, 20, 99 - round};
            add(mine, grades);
            gives("round " + round, mine, grades);
        }
        empty("behind twelve rounds", mine);
    }

    /** 'the sum of the grades of all its blocks divided by their number, rounded down, is that of the one which it gives'. */
    private void meanRoundedDown() {
        int[][] cases = {{0, 0, 1}, {0, 1, 0}, {1, 1, 1}, {1, 1, 2}, {49, 99, 0}, {33, 0, 0, 99}, {65, 98, 99, 0}, {98, 98, 99, 99, 99}};
        for (int[] one : cases) {
            PitForge mine = stocked(Arrays.copyOfRange(one, 1, one.length));
            mine.mix(true);
            gives("the mean of " + Arrays.toString(one), mine, one[0]);
        }
    }

    /** 'and the sum is less by this': what was rounded down stays for the next one. */
    private void sumLessByThis() {
        PitForge mine = stocked(0, 1);
        mine.mix(true);
        gives("1 by 2, and 1", mine, 0, 1);
        empty("1", mine);
        PitForge more = stocked(11, 21, 41, 80);
        more.mix(true);
        gives("153 by 4", more, 38, 38, 38, 39);
        empty("153", more);
        PitForge nothing = stocked(0, 0, 0);
        nothing.mix(true);
        gives("0 by 3", nothing, 0, 0, 0);
        empty("0", nothing);
    }

    /** The mean of one block. */
    private void oneBlockThatMixes() {
        PitForge mine = stocked(37);
        mine.mix(true);
        gives("one", mine, 37);
        empty("one", mine);
        mine.mix(false);
        add(mine, 5, 80);
        gives("no heap is left of it", mine, 5, 80);
    }

    /** The mean of no block: nothing is divided. */
    private void nothingToMix() {
        PitForge mine = stocked();
        mine.mix(true);
        empty("mixing", mine);
        mine.goOn(20);
        mine.mix(false);
        add(mine, 60, 10);
        gives("no heap of nothing", mine, 60, 10);
    }

    /** 'all its blocks': those of this week, too, for it gives behind the digging. */
    private void mixesWhatCameThisWeek() {
        PitForge mine = stocked(10);
        mine.mix(true);
        mine.tellTruth(1, 19);
        mine.set('s', 1);
        mine.goOn(1);
        check.same("the mean of 10 and 19", mine.meanFed(), 14.0);
        check.same("what is left", mine.stockGrades(), 15);
    }

    /** 'a heap from then on .. when it does not mix any more, they are given first, each one likewise by the mean'. */
    private void heapWhenItDoesNotMix() {
        PitForge mine = stocked(0, 10, 90);
        mine.mix(true);
        gives("100 by 3", mine, 33);
        mine.mix(false);
        gives("67 by 2, not 10", mine, 33, 34);
        empty("100", mine);
    }

    /** '.. each one likewise by the mean of the heap', rounded down anew each time. */
    private void heapMeanEachTime() {
        PitForge mine = stocked(1, 1, 1, 0, 0, 0, 0, 0, 0, 0);
        mine.mix(true);
        gives("3 by 10", mine, 0);
        mine.mix(false);
        gives("3 by 9 to 3 by 1", mine, 0, 0, 0, 0, 0, 0, 1, 1, 1);
        empty("3", mine);
    }

    /** '.. and then those that came later, in their order.' */
    private void heapAheadOfLaterBlocks() {
        PitForge mine = stocked(20, 41);
        mine.mix(true);
        gives("61 by 2", mine, 30);
        mine.mix(false);
        add(mine, 99, 0, 50);
        gives("the heap of one, not mixed with 99", mine, 31);
        gives("those that came later", mine, 99, 0, 50);
        empty("all of it", mine);
        PitForge mixing = stocked(20, 40, 60);
        mixing.mix(true);
        gives("120 by 3", mixing, 40);
        add(mixing, 10, 90);
        mixing.mix(false);
        gives("what came while it mixed, without giving", mixing, 40, 40, 10, 90);
        empty("that, too", mixing);
    }

    /** 'What it still has when it gives so, a former heap included, is a heap from then on'. */
    private void formerHeapIncluded() {
        PitForge mine = stocked(30, 30, 33);
        mine.mix(true);
        gives("93 by 3", mine, 31);
        mine.mix(false);
        add(mine, 1, 99);
        mine.mix(true);
        gives("62 and 100 by 4", mine, 40);
        mine.mix(false);
        gives("122 by 3, with no order any more", mine, 40, 41, 41);
        empty("both heaps", mine);
    }

    /** 'when it gives so': telling that it mixes alone makes no heap. */
    private void noHeapWithoutGiving() {
        PitForge mine = stocked(70, 10, 40);
        mine.mix(true);
        mine.mix(false);
        gives("told and untold", mine, 70);
        mine.mix(true);
        mine.set('p', 0);
        mine.goOn(3);
        mine.mix(false);
        mine.set('p', 1);
        gives("three weeks without room", mine, 10, 40);
        PitForge dug = stocked(70, 10, 40);
        dug.mix(true);
        dug.set('s', 1);
        dug.goOn(1);
        check.same("the plant was full of what was dug", dug.stock(), 3);
        dug.set('s', 0);
        dug.mix(false);
        gives("a week with the plant full", dug, 70, 10, 40);
    }

    /** A heap that was given to its end leaves nothing behind. */
    private void heapUsedUpWhileMixing() {
        PitForge mine = stocked(10, 21);
        mine.mix(true);
        gives("31 by 2", mine, 15, 16);
        add(mine, 80, 20);
        mine.mix(false);
        gives("layers behind no heap", mine, 80, 20);
        empty("a used up heap", mine);
    }

    /** The plant with more room takes by the mean again and again. */
    private void severalOfAHeapInAWeek() {
        PitForge mine = stocked(0, 1, 99);
        mine.mix(true);
        mine.set('p', 2);
        mine.goOn(1);
        check.same("33 twice", mine.stockGrades(), 34);
        check.same("their mean", mine.meanFed(), 33.0);
        mine.goOn(1);
        empty("the third", mine);
        check.same("the mean of all", mine.meanFed(), 100.0 / 3.0);
    }

    /** The plant with more room takes the rest of the heap and then a layer. */
    private void heapAndLayersInAWeek() {
        PitForge mine = stocked(10, 31);
        mine.mix(true);
        gives("41 by 2", mine, 20);
        mine.mix(false);
        add(mine, 90, 2);
        mine.set('p', 2);
        mine.goOn(1);
        check.same("21 and 90 were given", mine.stockGrades(), 2);
        check.same("one is left", mine.stock(), 1);
    }
}
