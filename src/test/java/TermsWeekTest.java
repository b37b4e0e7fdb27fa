import java.util.NoSuchElementException;

/**
 * A test of its own for each sentence of 'Terms' that names a boundary case, from 'A week' to 'Reckoning', but for the
 * stockpile, which is in TermsPileTest. Each one says which sentence it holds.
 */
public final class TermsWeekTest {
    private final Check check = new Check("TermsWeekTest");

    public static void main(String[] args) {
        TermsWeekTest test = new TermsWeekTest();
        test.weeksFrom0On();
        test.asManyAsTheShovelCan();
        test.againAndAgain();
        test.ofTheFreeOnes();
        test.ofThoseInAPhase();
        test.lowestPhaseFirst();
        test.nearestToTheTop();
        test.lowestColumn();
        test.phasesThatWouldEnd();
        test.phasesThatWouldBegin();
        test.moreWaterThan50();
        test.deepestLevelAsTheWeekBegins();
        test.waterAsTheWeekBegins();
        test.allBelowTheDeepest();
        test.neverTheLevel0();
        test.nothingDugYet();
        test.atLeastTheCutOff();
        test.roomOfThePlant();
        test.atLeastTheLowCutOff();
        test.lowCutOffAboveTheCutOff();
        test.toldAsTrue();
        test.byTheModelAsItIsDug();
        test.meanByDoubles();
        test.lastWeekWithSomething();
        test.firstTime90();
        test.atLeast50();
        test.recoveryToTheEvenOne();
        test.metalCutForEachBlock();
        test.moneyCutForEachWeek();
        test.millingAndDigging();
        test.begunTens();
        test.rainAndThenThePump();
        test.blastsIfToldAsTrue();
        test.blastsIfLessThan40();
        test.blastsBehindAllOthers();
        test.blastsAsTheBlockIsDug();
        test.factorCut();
        test.factorOfTheModelAsDug();
        test.check.close();
    }

    /** 'Weeks have numbers from 0 on.' */
    private void weeksFrom0On() {
        PitForge mine = Mines.withTruths();
        check.same("the first week is next", mine.week(), 0);
        mine.goOn(1);
        check.same("the second week is next", mine.week(), 1);
        check.same("dug in the first week", mine.dugIn(0), 0);
        mine.goOn(1);
        check.same("dug in the second week", mine.dugIn(3), 1);
    }

    /** 'up to as many blocks are dug as the shovel can, 3 at first': none, the most, fewer than it can. */
    private void asManyAsTheShovelCan() {
        PitForge mine = Mines.withTruths();
        mine.set('w', 99);
        check.same("3 at first", mine.goOn(1), 3);
        mine.set('s', 0);
        check.same("none", mine.goOn(1), 0);
        mine.set('s', 1);
        check.same("one", mine.goOn(1), 1);
        mine.set('s', 10);
        check.same("ten", mine.goOn(1), 10);
        check.same("forty in four weeks", mine.goOn(4), 40);
        check.same("fewer are left", mine.goOn(1), 6);
        check.same("none is left", mine.goOn(1), 0);
    }

    /** 'again and again, of the blocks that lie free': also those that were laid free in the same week. */
    private void againAndAgain() {
        PitForge mine = Mines.withLens(24, 99);
        mine.phase(10);
        mine.set('s', 9);
        check.same("nine on three levels", mine.goOn(1), 9);
        check.same("the last of them", mine.dugIn(24), 0);
        PitForge one = Mines.withLens(24, 99);
        one.phase(10);
        one.set('s', 8);
        check.same("eight of nine", one.goOn(1), 8);
        check.same("the last one is left", one.isFree(24), true);
    }

    /** '.. that lie free': a block that pays waits for the last of those above it. */
    private void ofTheFreeOnes() {
        PitForge mine = Mines.withLens(14, 50);
        mine.phase(10);
        mine.set('s', 1);
        for (int week = 0; week < 3; week++) {
            check.same("not free in the week " + week, mine.isFree(14), false);
            mine.goOn(1);
            check.same("not dug in the week " + week, mine.isDug(14), false);
        }
        check.same("free", mine.isFree(14), true);
        mine.goOn(1);
        check.same("dug", mine.isDug(14), true);
    }

    /** '.. are in a phase': without phases, or behind the last block of the last one, nothing is dug. */
    private void ofThoseInAPhase() {
        PitForge mine = Mines.withLens(14, 34);
        mine.set('s', 10);
        check.same("without phases", mine.goOn(1), 0);
        mine.phase(9);
        check.same("with an empty one", mine.goOn(1), 0);
        mine.phase(10);
        check.same("no more than are in it", mine.goOn(1), 4);
        check.same("others lie free", mine.isFree(0), true);
        check.same("nothing more", mine.goOn(1), 0);
    }

    /** 'the one of the lowest phase', even below others. */
    private void lowestPhaseFirst() {
        PitForge mine = Mines.withLens(14, 50);
        mine.sample(0, 20);
        mine.phase(7);
        mine.phase(98);
        check.same("the other one is in the second phase", mine.phaseOf(0), 1);
        check.same("and lies free", mine.isFree(0), true);
        mine.set('s', 1);
        mine.goOn(5);
        int[] turns = {3, 4, 5, 14, 0};
        for (int week = 0; week < 5; week++) {
            check.same("the block " + turns[week], mine.isDug(turns[week]) ? mine.dugIn(turns[week]) : -1, week);
        }
    }

    /** 'then nearest to the top', even of a higher column. */
    private void nearestToTheTop() {
        PitForge mine = Mines.withTruths();
        mine.rock(10, 'h');
        mine.set('s', 1);
        mine.goOn(1);
        check.same("free on the level 1", mine.isFree(10), true);
        mine.goOn(9);
        check.same("not yet", mine.isDug(10), false);
        check.same("the last of the level 0", mine.dugIn(9), 9);
        mine.goOn(1);
        check.same("now", mine.dugIn(10), 10);
    }

    /** 'then of the lowest column'. */
    private void lowestColumn() {
        PitForge mine = Mines.withTruths();
        mine.set('s', 1);
        mine.set('r', 0);
        for (int week = 0; week < 20; week++) {
            mine.goOn(1);
            check.same("the column " + week % 10, mine.isDug(week) ? mine.dugIn(week) : -1, week);
        }
    }

    /** 'phases are those at the beginning of the week': blasts that make all others worth nothing. */
    private void phasesThatWouldEnd() {
        PitForge mine = new PitForge();
        mine.sample(0, 50);
        mine.phase(10);
        mine.tellTruth(0, 0);
        mine.set('s', 4);
        check.same("four in spite of the first", mine.goOn(1), 4);
        check.same("the mean of 50 and 0", mine.grade(5), 25);
        mine.tellTruth(4, 0);
        check.same("four more", mine.goOn(1), 4);
        check.same("no phase is left", mine.phaseOf(9), -1);
        check.same("nothing in the next week", mine.goOn(1), 0);
    }

    /** The same: blasts that make another block worth it. */
    private void phasesThatWouldBegin() {
        PitForge mine = new PitForge();
        mine.sample(0, 24);
        for (int block = 1; block < 10; block++) {
            mine.sample(block, 0);
        }
        mine.rock(10, 'h');
        mine.tellTruth(0, 99);
        mine.phase(10);
        mine.set('s', 10);
        check.same("just the one of the phase", mine.goOn(1), 1);
        check.same("the next one lies free", mine.isFree(10), true);
        check.same("and is in the phase now", mine.phaseOf(10), 0);
        mine.goOn(1);
        check.same("dug in the next week", mine.dugIn(10), 1);
    }

    /** A mine with the level 0 dug, and this much water; it neither rains nor pumps any more. */
    private PitForge wet(int units) {
        PitForge mine = Mines.withTruths();
        mine.set('w', 0);
        mine.set('r', 0);
        mine.set('s', 10);
        mine.goOn(1);
        mine.set('s', 0);
        mine.set('r', units);
        mine.goOn(1);
        mine.set('r', 0);
        mine.set('s', 10);
        check.same("the water", mine.water(), units);
        return mine;
    }

    /** 'if there is more water than 50 then'. */
    private void moreWaterThan50() {
        check.same("49", wet(49).goOn(1), 10);
        check.same("50", wet(50).goOn(1), 10);
        check.same("51", wet(51).goOn(1), 0);
        check.same("99", wet(99).goOn(1), 0);
    }

    /** 'The deepest level at which a block has been dug as the week begins': levels dug since are not looked at. */
    private void deepestLevelAsTheWeekBegins() {
        PitForge mine = Mines.withLens(24, 99);
        mine.set('r', 99);
        mine.set('w', 0);
        mine.goOn(1);
        mine.phase(10);
        mine.set('s', 9);
        check.same("three levels, for none had been dug", mine.goOn(1), 9);
        PitForge one = wet(0);
        one.set('s', 1);
        one.goOn(1);
        one.set('r', 99);
        one.goOn(1);
        check.same("one block of the level 1 is enough", one.goOn(1), 0);
    }

    /** 'if there is more water than 50 then': the rain at the end of a week counts from the next one on. */
    private void waterAsTheWeekBegins() {
        PitForge mine = wet(50);
        mine.set('r', 99);
        check.same("50 as it begins", mine.goOn(1), 10);
        check.same("149 as it ends", mine.water(), 149);
        mine.set('r', 0);
        mine.set('w', 99);
        check.same("149 as it begins", mine.goOn(1), 0);
        check.same("50 as it ends", mine.water(), 50);
        check.same("50 again", mine.goOn(1), 10);
    }

    /** '.. is under water, with all below it': and none above it. */
    private void allBelowTheDeepest() {
        PitForge mine = wet(0);
        mine.goOn(1);
        mine.set('r', 51);
        mine.set('s', 0);
        mine.goOn(1);
        mine.set('s', 10);
        check.same("the level 2 lies free", mine.isFree(20), true);
        check.same("but it is below the deepest, 1", mine.goOn(1), 0);
        PitForge shaft = Mines.withLens(24, 99);
        shaft.rock(14, 'h');
        shaft.rock(24, 'h');
        shaft.phase(6);
        shaft.set('r', 99);
        shaft.set('w', 0);
        check.same("a shaft to the level 2", shaft.goOn(1), 3);
        for (int block : new int[] {0, 9, 50, 59, 39}) {
            shaft.sample(block, 99);
        }
        shaft.phase(99);
        shaft.set('s', 10);
        check.same("the levels 0 and 1 are above it", shaft.goOn(2), 18);
        check.same("the level 1", shaft.isDug(10) && shaft.isDug(19), true);
        check.same("the level 2 is the deepest", shaft.goOn(1), 0);
        check.same("though it lies free", shaft.isFree(20), true);
    }

    /** 'but never the level 0'. */
    private void neverTheLevel0() {
        PitForge mine = Mines.withTruths();
        mine.rock(10, 'h');
        mine.set('r', 99);
        mine.set('w', 0);
        mine.goOn(1);
        check.same("99", mine.water(), 99);
        check.same("the level 0 goes on", mine.goOn(2), 6);
        mine.set('s', 10);
        check.same("its last one, and none of the level 1", mine.goOn(1), 1);
        check.same("the level 1 lies free", mine.isFree(10), true);
        check.same("but is under water", mine.goOn(1), 0);
    }

    /** 'nothing is, if nothing has been dug.' */
    private void nothingDugYet() {
        PitForge mine = Mines.withLens(14, 34);
        mine.set('r', 99);
        mine.set('w', 0);
        mine.goOn(20);
        mine.phase(10);
        mine.set('s', 4);
        check.same("1980 units", mine.water(), 1980);
        check.same("down to the level 1", mine.goOn(1), 4);
        check.same("it", mine.isDug(14), true);
    }

    private void went(String about, PitForge mine, String places) {
        for (int block = 0; block < places.length(); block++) {
            check.same(about + ", block " + block, mine.wentTo(block), places.charAt(block));
        }
    }

    /** 'goes to the plant if its true grade is at least the cut-off, 20 at first'. */
    private void atLeastTheCutOff() {
        PitForge first = Mines.withTruths(20, 19, 21);
        first.goOn(1);
        went("20 at first", first, "psp");
        PitForge least = Mines.withTruths(0, 1);
        least.set('c', 0);
        least.set('s', 2);
        least.goOn(1);
        went("the least", least, "pp");
        PitForge most = Mines.withTruths(98, 99);
        most.set('c', 99);
        most.set('s', 2);
        most.goOn(1);
        went("the most", most, "sp");
    }

    /** 'and the plant has room, 2 blocks a week at first'. */
    private void roomOfThePlant() {
        PitForge mine = Mines.withTruths(50, 50, 50, 50, 50, 50, 50, 50);
        mine.goOn(1);
        went("2 at first", mine, "pps");
        check.same("and no more out of the stockpile", mine.tons('p'), 20);
        mine.set('p', 0);
        mine.goOn(1);
        went("no room", mine, "ppssss");
        check.same("nothing either out of the stockpile", mine.tons('p'), 20);
        mine.set('p', 1);
        mine.goOn(1);
        went("room anew each week", mine, "ppsssspss");
        PitForge most = Mines.withTruths();
        most.set('p', 10);
        most.set('s', 10);
        most.goOn(1);
        went("room for ten", most, "pppppppppp");
    }

    /** 'otherwise to the stockpile, if this grade is at least the low cut-off, 10 at first; otherwise to the dump.' */
    private void atLeastTheLowCutOff() {
        PitForge first = Mines.withTruths(10, 9, 11);
        first.set('p', 0);
        first.goOn(1);
        went("10 at first", first, "sds");
        PitForge least = Mines.withTruths(0, 1);
        least.set('p', 0);
        least.set('l', 0);
        least.set('s', 2);
        least.goOn(1);
        went("the least", least, "ss");
        PitForge most = Mines.withTruths(98, 99);
        most.set('p', 0);
        most.set('l', 99);
        most.set('s', 2);
        most.goOn(1);
        went("the most", most, "ds");
    }

    /** The same two sentences, when the low cut-off is the greater one. */
    private void lowCutOffAboveTheCutOff() {
        PitForge mine = Mines.withTruths(20, 19, 20, 30, 29);
        mine.set('l', 30);
        mine.set('s', 5);
        mine.goOn(1);
        went("without room, by the low cut-off alone", mine, "pdpsd");
    }

    /** 'The true grade is that which was told for it': also 0, and the one told last. */
    private void toldAsTrue() {
        PitForge mine = Mines.withTruths(0, 99, 15);
        mine.tellTruth(1, 9);
        mine.tellTruth(2, 10);
        mine.set('p', 0);
        mine.goOn(1);
        went("a told 0, and the last told", mine, "dds");
        check.same("the sum", mine.stockGrades(), 10);
    }

    /** 'otherwise that of the model as it is dug': not as the week begins, and not as it is later. */
    private void byTheModelAsItIsDug() {
        PitForge mine = new PitForge();
        mine.sample(0, 60);
        mine.phase(50);
        mine.tellTruth(0, 40);
        mine.set('p', 0);
        mine.goOn(1);
        check.same("the blast makes the others 50", mine.stockGrades(), 40 + 50 + 50);
        mine.sample(1, 99);
        check.same("a later sample", mine.grade(1), 99);
        check.same("the stockpile is as it was", mine.stockGrades(), 140);
        check.same("as dug, the model had 60 and 50 and 50", mine.factor(), 14000 / 160);
    }

    /** 'The plant, if it had something, has the mean of the grades of this week, divided by doubles'. */
    private void meanByDoubles() {
        PitForge mine = Mines.withTruths(50, 50, 50, 50, 50, 52, 52, 52, 51);
        mine.set('p', 3);
        mine.goOn(2);
        check.same("two thirds more: 89.33", mine.recovery(), 89);
        mine.goOn(1);
        check.same("one more: 51.67 behind 50.67", mine.recovery(), 89);
        PitForge one = Mines.withTruths(50, 50, 50, 50, 50, 51);
        one.set('p', 3);
        one.goOn(2);
        check.same("a third more: 89.67", one.recovery(), 90);
        PitForge fewer = Mines.withTruths(60, 30, 30, 40);
        fewer.set('p', 3);
        fewer.goOn(1);
        fewer.set('s', 1);
        fewer.goOn(1);
        check.same("one block of 40 behind three of 40", fewer.recovery(), 90);
    }

    /** 'that of the last week in which it had something': a grade of 0 is something, an idle week is not. */
    private void lastWeekWithSomething() {
        PitForge mine = Mines.withTruths(30, 30, 20, 20, 0, 0, 10, 10);
        mine.set('s', 2);
        mine.set('c', 0);
        mine.goOn(1);
        mine.set('s', 0);
        mine.goOn(3);
        check.same("idle weeks leave it", mine.recovery(), 90);
        mine.set('s', 2);
        mine.goOn(1);
        check.same("ten less, over idle weeks", mine.recovery(), 80);
        mine.goOn(1);
        check.same("twenty less", mine.recovery(), 70);
        mine.goOn(1);
        check.same("ten more than nothing", mine.recovery(), 80);
    }

    /** 'the first time 90': whatever the mean is, and also behind idle weeks. */
    private void firstTime90() {
        for (int grade : new int[] {0, 1, 50, 99}) {
            PitForge mine = Mines.withTruths(grade);
            mine.set('c', 0);
            mine.set('s', 0);
            mine.goOn(2);
            check.fails("idle", NoSuchElementException.class, mine::recovery);
            mine.set('s', 1);
            mine.goOn(1);
            check.same("a mean of " + grade, mine.recovery(), 90);
        }
    }

    private void recoveryBetween(String about, int due, int... four) {
        PitForge mine = Mines.withTruths(four);
        mine.set('s', 2);
        mine.set('c', 0);
        mine.goOn(2);
        check.same(about, mine.recovery(), due);
    }

    /** 'at least 50'. */
    private void atLeast50() {
        recoveryBetween("39 more", 51, 10, 10, 49, 49);
        recoveryBetween("40 more", 50, 10, 10, 50, 50);
        recoveryBetween("41 more", 50, 10, 10, 51, 51);
        recoveryBetween("40 less", 50, 50, 50, 10, 10);
        recoveryBetween("41 less", 50, 51, 51, 10, 10);
        recoveryBetween("99 more", 50, 0, 0, 99, 99);
        recoveryBetween("99 less", 50, 99, 99, 0, 0);
    }

    /** 'rounded to the nearest whole number, of two as near to the even one.' */
    private void recoveryToTheEvenOne() {
        recoveryBetween("nothing", 90, 50, 50, 50, 50);
        recoveryBetween("a half more: 89.5", 90, 50, 50, 50, 51);
        recoveryBetween("a half less: 89.5", 90, 50, 51, 50, 50);
        recoveryBetween("one more", 89, 50, 50, 51, 51);
        recoveryBetween("one and a half: 88.5", 88, 50, 50, 51, 52);
        recoveryBetween("39.5: 50.5", 50, 10, 10, 49, 50);
        recoveryBetween("38.5: 51.5", 52, 10, 10, 48, 49);
        recoveryBetween("40.5: 49.5, but 50 at least", 50, 10, 10, 50, 51);
    }

    /** 'for each block, 10 times its grade times the recovery, divided by 100, cut, summed.' */
    private void metalCutForEachBlock() {
        PitForge mine = Mines.withTruths(28, 28, 15, 15);
        mine.set('s', 2);
        mine.set('c', 0);
        mine.goOn(1);
        check.same("280 at 90", mine.metal(), 504L);
        mine.goOn(1);
        check.same("13 less", mine.recovery(), 77);
        check.same("150 at 77: twice 115.5", mine.metal(), 504L + 115 + 115);
        PitForge none = Mines.withTruths(0);
        none.set('c', 0);
        none.set('s', 1);
        none.goOn(1);
        check.same("a grade of 0", none.metal(), 0L);
        PitForge fewer = Mines.withTruths(60, 60, 60, 60, 60);
        fewer.set('p', 10);
        fewer.goOn(1);
        check.same("three of 600 at 90", fewer.metal(), 3L * 540);
        fewer.set('s', 1);
        fewer.goOn(1);
        check.same("one more behind three", fewer.metal(), 4L * 540);
        fewer.set('s', 0);
        fewer.goOn(1);
        check.same("none behind one", fewer.metal(), 4L * 540);
    }

    /** 'The money grows by the metal times the price of the market, 10 at first, divided by 10, cut'. */
    private void moneyCutForEachWeek() {
        int[][] cases = {{10, 504}, {9, 453}, {1, 50}, {0, 0}, {99, 4989}};
        for (int[] one : cases) {
            PitForge mine = Mines.withTruths(28, 28, 28, 28);
            mine.set('s', 2);
            mine.set('w', 0);
            check.same("10 at first", mine.set('m', one[0]), 10);
            mine.goOn(1);
            check.same("504 at " + one[0], mine.money(), one[1] - 400L - 60);
            mine.goOn(1);
            check.same("and again", mine.money(), 2 * (one[1] - 400L - 60));
        }
    }

    /** 'gets less by 200 for each block that the plant had, by the digging of each dug block'. */
    private void millingAndDigging() {
        PitForge mine = Mines.withTruths(0, 0, 0, 0, 0, 0, 0, 0, 0, 0);
        mine.set('w', 0);
        mine.set('r', 0);
        mine.set('s', 10);
        mine.set('p', 0);
        mine.goOn(1);
        check.same("ten to the dump", mine.money(), -300L);
        mine.goOn(1);
        check.same("ten of the level 1 to the stockpile", mine.money(), -700L);
        mine.set('s', 0);
        mine.goOn(1);
        check.same("an idle week", mine.money(), -700L);
        mine.set('m', 0);
        mine.set('p', 10);
        mine.goOn(1);
        check.same("ten out of the stockpile", mine.money(), -2700L);
    }

    /** 'by 5 for each 10 units of water that were pumped, begun ones, too.' */
    private void begunTens() {
        int[][] cases = {{0, 99, 0}, {99, 0, 0}, {1, 99, 5}, {99, 1, 5}, {9, 99, 5}, {10, 99, 5}, {11, 99, 10}, {99, 10, 5},
            {99, 11, 10}, {20, 99, 10}, {21, 99, 15}, {90, 99, 45}, {91, 99, 50}, {99, 99, 50}};
        for (int[] one : cases) {
            PitForge mine = new PitForge();
            mine.set('r', one[0]);
            mine.set('w', one[1]);
            mine.goOn(1);
            check.same("rain of " + one[0] + ", pump of " + one[1], mine.money(), (long) -one[2]);
        }
        PitForge weeks = new PitForge();
        weeks.goOn(2);
        check.same("two weeks of five units, each begun", weeks.money(), -10L);
    }

    /** 'the rain is added to the water, 10 at first ..; then as much as the pump can, 5 at first, .. as much as there is.' */
    private void rainAndThenThePump() {
        PitForge mine = new PitForge();
        mine.goOn(1);
        check.same("10 and 5 at first", mine.water(), 5);
        mine.goOn(1);
        check.same("each week", mine.water(), 10);
        mine.set('w', 20);
        mine.goOn(1);
        check.same("the rain is pumped, too", mine.water(), 0);
        mine.set('w', 99);
        mine.goOn(1);
        check.same("no more than there is", mine.water(), 0);
        mine.set('r', 99);
        mine.goOn(1);
        check.same("all of the most", mine.water(), 0);
        mine.set('w', 0);
        mine.goOn(1);
        check.same("no pump", mine.water(), 99);
        mine.set('r', 0);
        mine.goOn(1);
        check.same("no rain", mine.water(), 99);
    }

    /** 'its true grade is a sample of it .. if it was told as true': also a told 0; a block that was not told gives none. */
    private void blastsIfToldAsTrue() {
        PitForge mine = new PitForge();
        mine.sample(9, 60);
        mine.phase(50);
        mine.tellTruth(1, 0);
        mine.goOn(1);
        check.same("one of three", mine.sample(59, 60), 3);
        check.same("its sample of 0", mine.grade(1), 0);
    }

    /** 'and there are less than 40.' */
    private void blastsIfLessThan40() {
        for (int told = 37; told <= 40; told++) {
            PitForge mine = new PitForge();
            for (int i = 0; i < told; i++) {
                mine.sample(30 + i % 30, 90);
            }
            for (int block = 0; block < 3; block++) {
                mine.tellTruth(block, 20 + block);
            }
            mine.phase(50);
            check.same("three blocks", mine.goOn(1), 3);
            for (int block = 0; block < 3; block++) {
                boolean counts = told + block < 40;
                check.same(told + " samples, the blast " + block, mine.grade(block) == 20 + block, counts);
            }
            check.fails(told + " samples and three blasts", IllegalStateException.class, () -> mine.sample(0, 0));
        }
        PitForge room = new PitForge();
        for (int i = 0; i < 36; i++) {
            room.sample(30, 90);
        }
        room.phase(50);
        room.tellTruth(0, 20);
        room.tellTruth(2, 20);
        room.goOn(1);
        check.same("36 samples and two blasts", room.sample(0, 20), 39);
    }

    /** '.. then, behind all others': the mean of the block 0 is 85.5 but for the last digits (TermsGroundTest). */
    private void blastsBehindAllOthers() {
        PitForge mine = new PitForge();
        mine.sample(2, 69);
        mine.sample(13, 85);
        mine.sample(26, 68);
        mine.tellTruth(1, 90);
        mine.phase(50);
        mine.set('s', 2);
        mine.goOn(1);
        check.same("the blast is the last", mine.isDug(1), true);
        check.same("in this order", mine.grade(0), 85);
    }

    /** 'When a block is dug, its true grade is a sample of it then': ahead of the next block of the same week. */
    private void blastsAsTheBlockIsDug() {
        PitForge mine = new PitForge();
        mine.sample(5, 50);
        mine.phase(50);
        mine.tellTruth(0, 10);
        mine.tellTruth(1, 12);
        mine.set('p', 0);
        mine.goOn(1);
        // block 2: 50 at a square of 9, 10 at one of 4, 12 at one of 1: (50/9 + 10/4 + 12) / (1/9 + 1/4 + 1)
        check.same("the third of the week", mine.stockGrades(), 10 + 12 + 15);
        check.same("and not as the week began", mine.grade(2), 15);
    }

    private void factor(String about, int due, int... truths) {
        PitForge mine = Mines.withTruths(truths);
        mine.set('s', truths.length);
        mine.goOn(1);
        check.same(about, mine.factor(), due);
    }

    /** 'The factor of the model is 100 times the sum of the true grades .. divided by that .. that the model had .., cut.' */
    private void factorCut() {
        factor("nothing of 99", 0, 0);
        factor("98 of 99: 98.98", 98, 98);
        factor("99 of 99", 100, 99);
        factor("1 of 198: 0.5", 0, 0, 1);
        factor("2 of 198: 1.01", 1, 1, 1);
        factor("197 of 198: 99.49", 99, 98, 99);
        PitForge high = new PitForge();
        high.sample(1, 99);
        high.sample(0, 3);
        high.tellTruth(0, 99);
        high.phase(99);
        high.set('s', 1);
        high.goOn(1);
        check.same("99 of 3", high.factor(), 3300);
    }

    /** '.. the grades that the model had for them as they were dug': ahead of the block's own blast. */
    private void factorOfTheModelAsDug() {
        PitForge mine = new PitForge();
        mine.sample(0, 80);
        mine.tellTruth(0, 40);
        mine.tellTruth(1, 30);
        mine.phase(50);
        mine.set('s', 1);
        mine.goOn(1);
        check.same("40 of 80", mine.factor(), 50);
        check.same("the mean of 80 and 40 now", mine.grade(0), 60);
        mine.goOn(1);
        check.same("70 of 80 and 60", mine.factor(), 50);
        mine.sample(0, 0);
        check.same("a later sample leaves it", mine.factor(), 50);
    }
}
