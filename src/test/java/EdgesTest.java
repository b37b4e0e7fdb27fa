import java.util.NoSuchElementException;

/**
 * The ends of what the promises 1 to 32 take and answer: a test of its own for each promise. What the calls refuse is in
 * RefusedCallsTest.
 */
public final class EdgesTest {
    private final Check check = new Check("EdgesTest");

    public static void main(String[] args) {
        EdgesTest test = new EdgesTest();
        test.newObject();
        test.rock();
        test.sample();
        test.tellTruth();
        test.grade();
        test.worth();
        test.isFree();
        test.isDug();
        test.pitWorth();
        test.pitSize();
        test.isInPit();
        test.worthWith();
        test.phase();
        test.clearPhases();
        test.phaseOf();
        test.phaseOfNow();
        test.set();
        test.mix();
        test.goOn();
        test.week();
        test.wentTo();
        test.dugIn();
        test.stock();
        test.stockGrades();
        test.water();
        test.recovery();
        test.metal();
        test.money();
        test.tons();
        test.factor();
        test.isBalanced();
        test.dugShare();
        test.meanFed();
        test.lastCall();
        test.check.close();
    }

    /** A mine in which all blocks have been dug, in six weeks, and none had room in the plant. */
    private static PitForge allDug() {
        PitForge mine = Mines.withTruths();
        mine.set('p', 0);
        mine.set('r', 0);
        mine.set('s', 10);
        mine.goOn(6);
        return mine;
    }

    /** Promise 1: 'a mine of soft blocks without samples and phases'. */
    private void newObject() {
        PitForge mine = new PitForge();
        check.same("no phase: nothing is dug", mine.goOn(20), 0);
        check.same("no samples: no pit", mine.pitSize(99), 0);
        check.same("no phases", mine.clearPhases(), 0);
        check.same("the first sample", mine.sample(0, 99), 1);
        check.same("the first phase", mine.phase(0), 1);
        for (int block = 0; block < 60; block++) {
            check.same("soft " + block, mine.rock(block, 's'), 's');
        }
    }

    /** Promise 2: the first and the last block, the same rock again, and a block until it is dug. */
    private void rock() {
        PitForge mine = Mines.withTruths();
        for (int block : new int[] {0, 9, 50, 59}) {
            check.same("soft at first", mine.rock(block, 'h'), 's');
            check.same("hard, told again", mine.rock(block, 'h'), 'h');
            check.same("hard, told soft", mine.rock(block, 's'), 'h');
            check.same("soft, told again", mine.rock(block, 's'), 's');
        }
        mine.goOn(1);
        check.same("the last block ahead of its digging", mine.rock(3, 'h'), 's');
        mine.goOn(1);
        check.fails("it has been dug", UnsupportedOperationException.class, () -> mine.rock(3, 'h'));
    }

    /** Promise 3: the first and the fortieth sample, all of one block or of forty, also of dug blocks. */
    private void sample() {
        PitForge one = new PitForge();
        PitForge many = new PitForge();
        for (int n = 1; n <= 40; n++) {
            check.same("of one block", one.sample(59, 99), n);
            check.same("of many blocks", many.sample(n - 1, n), n);
        }
        check.same("the first block's", many.grade(0), 1);
        check.same("the fortieth block's", many.grade(39), 40);
        PitForge dug = Mines.dugAtTop(4);
        check.same("of a dug block", dug.sample(4, 1), 31);
        check.same("its grade", dug.grade(4), 50);
    }

    /** Promise 4: 'Returns the one that was told before, or -1': a told 0 is none of it. */
    private void tellTruth() {
        PitForge mine = new PitForge();
        for (int block : new int[] {0, 9, 50, 59}) {
            check.same("none", mine.tellTruth(block, 0), -1);
            check.same("0", mine.tellTruth(block, 99), 0);
            check.same("99", mine.tellTruth(block, 99), 99);
            check.same("99 again", mine.tellTruth(block, 0), 99);
        }
        check.same("no sample came of it", mine.sample(0, 5), 1);
    }

    /** Promise 5: the least and the greatest grade, of the first and the last block. */
    private void grade() {
        PitForge mine = new PitForge();
        check.same("0 without samples", mine.grade(0) + mine.grade(59), 0);
        mine.sample(30, 99);
        check.same("99 by one of 99, the first block", mine.grade(0), 99);
        check.same("99 by one of 99, the last block", mine.grade(59), 99);
    }

    /** Promise 6: the prices 0 and 99, the first and the last block. */
    private void worth() {
        PitForge mine = Mines.sampledOut();
        check.same("0, first block", mine.worth(0, 0), -30);
        check.same("99, first block", mine.worth(0, 99), 9571);
        check.same("0, last block", mine.worth(59, 0), -80);
        check.same("99, last block", mine.worth(59, 99), 9521);
    }

    /** Promise 7: 'Returns whether it does, and has not been dug.' */
    private void isFree() {
        PitForge mine = Mines.dugAtTop(0, 1, 2, 3, 4, 5, 6, 7, 8);
        check.same("a dug one", mine.isFree(0), false);
        check.same("one of the same level", mine.isFree(9), true);
        check.same("a level below", mine.isFree(10), true);
        check.same("with one above that is not dug", mine.isFree(18), false);
        check.same("the last block", mine.isFree(59), false);
        PitForge all = allDug();
        for (int block = 0; block < 60; block++) {
            check.same("all dug, " + block, all.isFree(block), false);
        }
        all = Mines.withTruths();
        all.set('r', 0);
        all.set('s', 10);
        all.goOn(5);
        for (int block = 50; block < 60; block++) {
            check.same("the lowest level, " + block, all.isFree(block), true);
        }
    }

    /** Promise 8: none, one, all. */
    private void isDug() {
        PitForge none = new PitForge();
        PitForge one = Mines.dugAtTop(9);
        PitForge all = allDug();
        for (int block = 0; block < 60; block++) {
            check.same("none, " + block, none.isDug(block), false);
            check.same("one, " + block, one.isDug(block), block == 9);
            check.same("all, " + block, all.isDug(block), true);
        }
    }

    /** Promise 9: the prices 0 and 99, the empty pit and the whole mine. */
    private void pitWorth() {
        check.same("an empty one at 0", Mines.sampledOut().pitWorth(0), 0L);
        check.same("an empty one at 99", new PitForge().pitWorth(99), 0L);
        check.same("the whole mine at 99", Mines.sampledOut().pitWorth(99), 60L * 9601 - 3300);
        check.same("all dug", allDug().pitWorth(99), 0L);
        check.same("one block", Mines.withLens(9, 24).pitWorth(10), 10L);
    }

    /** Promise 10: no block, one block, all blocks. */
    private void pitSize() {
        check.same("none at 0", Mines.sampledOut().pitSize(0), 0);
        check.same("one", Mines.withLens(0, 24).pitSize(10), 1);
        check.same("sixty", Mines.sampledOut().pitSize(99), 60);
        PitForge mine = Mines.withTruths();
        mine.set('s', 1);
        mine.goOn(1);
        check.same("sixty less one", mine.pitSize(99), 59);
        check.same("all dug", allDug().pitSize(99), 0);
    }

    /** Promise 11: the first and the last block; a dug one is in no pit, and is no fault. */
    private void isInPit() {
        PitForge mine = Mines.sampledOut();
        check.same("the first at 99", mine.isInPit(99, 0), true);
        check.same("the last at 99", mine.isInPit(99, 59), true);
        check.same("the first at 0", mine.isInPit(0, 0), false);
        check.same("the last at 0", mine.isInPit(0, 59), false);
        PitForge dug = Mines.dugAtTop(4);
        check.same("a dug one", dug.isInPit(99, 4), false);
    }

    /** Promise 12: 'this and all that must be dug ahead of it': itself alone, and the most that can be. */
    private void worthWith() {
        PitForge mine = new PitForge();
        check.same("itself alone, first", mine.worthWith(99, 0), -30L);
        check.same("itself alone, last of the level", mine.worthWith(99, 9), -30L);
        int[] digging = {30, 40, 50, 60, 70, 80};
        for (int column = 0; column < 10; column++) {
            long most = 0;
            long shaft = 0;
            for (int level = 0; level < 6; level++) {
                int reach = 5 - level;
                most -= digging[level] * (Math.min(9, column + reach) - Math.max(0, column - reach) + 1);
                shaft -= digging[level];
            }
            check.same("the lowest level, soft, " + column, mine.worthWith(0, 50 + column), most);
            PitForge hard = new PitForge();
            for (int level = 0; level < 6; level++) {
                hard.rock(10 * level + column, 'h');
            }
            check.same("the lowest level, hard, " + column, hard.worthWith(0, 50 + column), shaft);
        }
        PitForge deep = Mines.withTruths();
        deep.set('r', 0);
        deep.set('s', 10);
        deep.goOn(5);
        check.same("all above dug", deep.worthWith(10, 59), 710L);
        deep.set('s', 9);
        deep.goOn(1);
        check.same("the last of all", deep.worthWith(99, 59), 9521L);
    }

    /** Promise 13: 'its price, 0 to 99, greater than that of the phase before', up to four. */
    private void phase() {
        PitForge mine = new PitForge();
        check.same("0", mine.phase(0), 1);
        check.same("one more", mine.phase(1), 2);
        check.same("98", mine.phase(98), 3);
        check.same("99", mine.phase(99), 4);
        mine.clearPhases();
        check.same("0 again, without a phase before", mine.phase(0), 1);
        PitForge last = new PitForge();
        check.same("99 alone", last.phase(99), 1);
    }

    /** Promise 14: 'Returns how many there were': none to four. */
    private void clearPhases() {
        PitForge mine = Mines.withLens(4, 99);
        for (int count = 0; count <= 4; count++) {
            for (int i = 0; i < count; i++) {
                mine.phase(10 + i);
            }
            check.same("a block's phase of " + count, mine.phaseOf(4), count > 0 ? 0 : -1);
            check.same("clearPhases of " + count, mine.clearPhases(), count);
            check.same("no phase any more", mine.phaseOf(4), -1);
            check.same("nothing to dig", mine.goOn(1), 0);
        }
    }

    /** Promise 15: 'the phase of a block as of now': behind each sample, rock and week. */
    private void phaseOfNow() {
        PitForge mine = Mines.withLens(14, 32);
        mine.phase(10);
        check.same("ten too little", mine.phaseOf(14), -1);
        mine.sample(14, 36);
        check.same("behind a sample", mine.phaseOf(14), 0);
        mine.sample(14, 22);
        check.same("behind another", mine.phaseOf(14), -1);
        mine.rock(14, 'h');
        check.same("behind a rock", mine.phaseOf(14), 0);
        mine.rock(14, 's');
        check.same("behind another rock", mine.phaseOf(14), -1);
        PitForge dug = Mines.withLens(4, 24);
        dug.phase(10);
        dug.tellTruth(4, 99);
        dug.rock(14, 'h');
        check.same("below, worth nothing", dug.phaseOf(14), -1);
        dug.goOn(1);
        dug.sample(14, 99);
        check.same("behind a week", dug.phaseOf(14), 0);
        check.same("the dug one", dug.phaseOf(4), -1);
    }

    /** Promise 15: 'Returns the phase, from 0, or -1 if it is in none, or has been dug.' */
    private void phaseOf() {
        PitForge mine = Mines.withLens(4, 60);
        check.same("without phases", mine.phaseOf(4), -1);
        mine.phase(1);
        mine.phase(2);
        mine.phase(3);
        check.same("in none", mine.phaseOf(4), -1);
        mine.phase(4);
        check.same("in the last", mine.phaseOf(4), 3);
        mine.clearPhases();
        mine.phase(4);
        check.same("in the first", mine.phaseOf(4), 0);
        mine.set('s', 1);
        mine.goOn(1);
        check.same("dug", mine.phaseOf(4), -1);
        PitForge all = allDug();
        check.same("all dug, the first", all.phaseOf(0), -1);
        check.same("all dug, the last", all.phaseOf(59), -1);
    }

    /** Promise 16: the least and the greatest number of each kind, and 'the number before'. */
    private void set() {
        String kinds = "spclmrw";
        int[] atFirst = {3, 2, 20, 10, 10, 10, 5};
        int[] most = {10, 10, 99, 99, 99, 99, 99};
        for (int i = 0; i < kinds.length(); i++) {
            PitForge mine = new PitForge();
            char kind = kinds.charAt(i);
            check.same("at first " + kind, mine.set(kind, most[i]), atFirst[i]);
            check.same("the greatest " + kind, mine.set(kind, most[i]), most[i]);
            check.same("the greatest again " + kind, mine.set(kind, 0), most[i]);
            check.same("the least " + kind, mine.set(kind, 1), 0);
            for (int other = 0; other < kinds.length(); other++) {
                int due = other == i ? 1 : atFirst[other];
                check.same("then " + kinds.charAt(other), mine.set(kinds.charAt(other), due), due);
            }
        }
    }

    /** Promise 17: 'Returns whether it did': not at first, and told again. */
    private void mix() {
        PitForge mine = new PitForge();
        check.same("not at first", mine.mix(false), false);
        check.same("nor then", mine.mix(true), false);
        check.same("told again", mine.mix(true), true);
        check.same("untold", mine.mix(false), true);
        check.same("untold again", mine.mix(false), false);
    }

    /** Promise 18: 'the number of weeks, 1 to 20', and 'how many blocks were dug in them'. */
    private void goOn() {
        PitForge mine = new PitForge();
        check.same("1", mine.goOn(1), 0);
        check.same("20", mine.goOn(20), 0);
        check.same("21 weeks", mine.week(), 21);
        PitForge most = Mines.withTruths();
        most.set('r', 0);
        most.set('s', 10);
        check.same("all blocks in one call", most.goOn(20), 60);
        check.same("none is left", most.goOn(20), 0);
        PitForge least = Mines.withTruths();
        least.set('r', 0);
        least.set('s', 1);
        check.same("one block in one week", least.goOn(1), 1);
        check.same("19 in 19 weeks", least.goOn(19), 19);
        check.same("those of these weeks alone", least.goOn(20), 20);
    }

    /** Promise 19: 0 at first, and in no other call than goOn is it another. */
    private void week() {
        PitForge mine = new PitForge();
        check.same("at first", mine.week(), 0);
        mine.sample(4, 99);
        mine.phase(10);
        check.same("no week went by", mine.week(), 0);
        check.same("nor by asking", mine.week(), 0);
        mine.goOn(1);
        check.same("one", mine.week(), 1);
        mine.goOn(20);
        check.same("twenty more", mine.week(), 21);
    }

    /** Promise 20: ''s' to the stockpile, also if it was taken from there since': in the same week, and by a heap. */
    private void wentTo() {
        PitForge mine = Mines.withTruths(20, 19, 9);
        mine.mix(true);
        mine.goOn(1);
        check.same("p", mine.wentTo(0), 'p');
        check.same("s, taken in the same week", mine.wentTo(1), 's');
        check.same("nothing is left", mine.stock(), 0);
        check.same("d", mine.wentTo(2), 'd');
        PitForge all = allDug();
        check.same("the last block", all.wentTo(59), 's');
        all.set('p', 10);
        all.goOn(20);
        check.same("the stockpile is empty", all.stock(), 0);
        check.same("the last block, taken since", all.wentTo(59), 's');
    }

    /** Promise 21: the week 0, and a late one. */
    private void dugIn() {
        PitForge all = allDug();
        check.same("the first block", all.dugIn(0), 0);
        check.same("the last block", all.dugIn(59), 5);
        PitForge late = new PitForge();
        for (int i = 0; i < 10; i++) {
            late.goOn(20);
        }
        late.sample(0, 99);
        late.phase(99);
        late.goOn(1);
        check.same("behind 200 weeks", late.dugIn(0), 200);
    }

    /** Promise 22: empty, one, full. */
    private void stock() {
        check.same("at first", new PitForge().stock(), 0);
        PitForge mine = Mines.withTruths(50, 50, 10, 50, 50, 9);
        mine.goOn(1);
        check.same("one came and went", mine.stock(), 1);
        mine.goOn(1);
        check.same("the dump is none of it", mine.stock(), 1);
        check.same("all blocks", allDug().stock(), 60);
    }

    /** Promise 23: empty, blocks of grade 0, full. */
    private void stockGrades() {
        check.same("at first", new PitForge().stockGrades(), 0);
        PitForge mine = Mines.withTruths(0, 0, 0);
        mine.set('l', 0);
        mine.set('p', 0);
        mine.goOn(1);
        check.same("three of 0", mine.stockGrades(), 0);
        check.same("there are three", mine.stock(), 3);
        check.same("all blocks of 99", allDug().stockGrades(), 5940);
    }

    /** Promise 24: none at first, and much of it. */
    private void water() {
        PitForge mine = new PitForge();
        check.same("at first", mine.water(), 0);
        mine.set('r', 99);
        mine.set('w', 0);
        mine.goOn(20);
        check.same("twenty weeks of the most rain", mine.water(), 1980);
        mine.set('r', 0);
        mine.set('w', 99);
        mine.goOn(19);
        check.same("nineteen weeks of the greatest pump", mine.water(), 99);
        mine.goOn(1);
        check.same("the twentieth", mine.water(), 0);
        mine.goOn(1);
        check.same("never less than none", mine.water(), 0);
    }

    /** Promise 25: 'of the last week in which the plant had something': the least and the greatest. */
    private void recovery() {
        PitForge mine = Mines.withTruths(99, 0);
        mine.set('s', 1);
        mine.set('c', 0);
        check.fails("none yet", NoSuchElementException.class, mine::recovery);
        mine.goOn(1);
        check.same("the greatest", mine.recovery(), 90);
        mine.goOn(1);
        check.same("the least, by a block of 0", mine.recovery(), 50);
        mine.set('s', 0);
        mine.goOn(20);
        check.same("idle weeks", mine.recovery(), 50);
    }

    /** Promise 26: 'the sum over all weeks', 0 at first. */
    private void metal() {
        PitForge mine = Mines.withTruths();
        check.same("at first", mine.metal(), 0L);
        mine.set('r', 0);
        mine.set('s', 10);
        mine.set('p', 10);
        mine.goOn(20);
        check.same("all blocks of 99 at 90", mine.metal(), 60L * 891);
    }

    /** Promise 27: 'less than 0 perhaps, 0 at first'. */
    private void money() {
        PitForge mine = new PitForge();
        check.same("at first", mine.money(), 0L);
        mine.set('w', 1);
        mine.goOn(1);
        check.same("less than 0", mine.money(), -5L);
        PitForge rich = Mines.withTruths();
        rich.set('r', 0);
        rich.set('s', 10);
        rich.set('p', 10);
        rich.set('m', 99);
        rich.goOn(20);
        check.same("the most", rich.money(), 6L * (8910 * 99 / 10) - 60 * 200 - 3300);
    }

    /** Promise 28: nothing, all of one kind, and blocks that go from the stockpile to the plant. */
    private void tons() {
        PitForge mine = new PitForge();
        for (char kind : "psd".toCharArray()) {
            check.same("at first " + kind, mine.tons(kind), 0);
        }
        PitForge all = allDug();
        check.same("all in the stockpile", all.tons('s'), 600);
        check.same("none through the plant", all.tons('p'), 0);
        all.set('p', 10);
        all.goOn(20);
        check.same("none in the stockpile now", all.tons('s'), 0);
        check.same("all through the plant", all.tons('p'), 600);
        check.same("none in the dump", all.tons('d'), 0);
        PitForge waste = Mines.withTruths();
        waste.set('r', 0);
        waste.set('s', 10);
        waste.set('p', 0);
        for (int block = 0; block < 60; block++) {
            waste.tellTruth(block, 9);
        }
        waste.goOn(6);
        check.same("all in the dump", waste.tons('d'), 600);
    }

    /** Promise 29: a sum of true grades of 0, and the throw that ends with the first grade of the model. */
    private void factor() {
        PitForge mine = Mines.withLens(14, 50);
        mine.phase(10);
        mine.set('s', 3);
        mine.tellTruth(3, 9);
        mine.goOn(1);
        check.fails("three blocks of which the model had nothing", ArithmeticException.class, mine::factor);
        mine.tellTruth(14, 0);
        mine.goOn(1);
        check.same("9 of 50", mine.factor(), 18);
        PitForge zero = Mines.withTruths(0, 0, 0);
        zero.goOn(1);
        check.same("nothing of 297", zero.factor(), 0);
        PitForge one = Mines.withLens(14, 50);
        one.sample(3, 3);
        one.phase(10);
        one.tellTruth(3, 99);
        check.same("the mean of 0 and 3 goes to the even one", one.grade(3), 2);
        one.sample(3, 0);
        check.same("the least that the model can have", one.grade(3), 1);
        one.set('s', 1);
        one.goOn(1);
        check.same("99 of 1", one.factor(), 9900);
    }

    /** Promise 30: nothing dug, all dug, and the stockpile emptied. */
    private void isBalanced() {
        check.same("nothing dug", new PitForge().isBalanced(), true);
        PitForge all = allDug();
        check.same("all dug", all.isBalanced(), true);
        all.mix(true);
        all.set('p', 7);
        all.goOn(3);
        check.same("a heap", all.isBalanced(), true);
        all.goOn(20);
        check.same("no stock", all.isBalanced(), true);
        PitForge waste = Mines.withTruths(0, 0, 0);
        waste.goOn(1);
        check.same("all in the dump", waste.isBalanced(), true);
        PitForge quick = Mines.withLens(24, 99);
        quick.phase(10);
        quick.set('s', 9);
        check.same("three levels in one week", quick.goOn(1), 9);
        check.same("by the order of digging", quick.isBalanced(), true);
    }

    /** Promise 31: 'their number divided by 60, both converted to float': 0, 1, 7 and 60 of them. */
    private void dugShare() {
        check.same("none", new PitForge().dugShare(), 0f);
        check.same("one", Mines.dugAtTop(4).dugShare(), 1f / 60f);
        check.same("seven", Mines.dugAtTop(0, 1, 2, 3, 4, 5, 6).dugShare(), 7f / 60f);
        check.same("all", allDug().dugShare(), 1f);
    }

    /** Promise 32: 'both converted to double': a block of grade 0 is something, and thirds. */
    private void meanFed() {
        PitForge zero = Mines.withTruths(0);
        zero.set('c', 0);
        zero.set('s', 1);
        zero.goOn(1);
        check.same("one of 0", zero.meanFed(), 0.0);
        PitForge thirds = Mines.withTruths(20, 20, 21);
        thirds.set('p', 3);
        thirds.goOn(1);
        check.same("61 by 3", thirds.meanFed(), 61.0 / 3.0);
        PitForge all = allDug();
        all.set('p', 10);
        all.goOn(6);
        check.same("sixty of 99", all.meanFed(), 99.0);
    }

    /** 'An object is used for at most 512 calls': the last of them still answers, behind the dearest ones. */
    private void lastCall() {
        PitForge idle = new PitForge();
        for (int call = 1; call < 512; call++) {
            idle.goOn(20);
        }
        check.same("the 512th call: week", idle.week(), 511 * 20);
        PitForge wet = new PitForge();
        wet.set('r', 99);
        wet.set('w', 0);
        for (int call = 3; call < 512; call++) {
            wet.goOn(20);
        }
        check.same("the 512th call: water", wet.water(), 509 * 20 * 99);
        PitForge dear = new PitForge();
        dear.set('r', 99);
        dear.set('w', 99);
        for (int call = 3; call < 512; call++) {
            dear.goOn(20);
        }
        check.same("the 512th call: money", dear.money(), -509L * 20 * 50);
        PitForge phases = new PitForge();
        phases.sample(0, 50);
        for (int call = 2; call < 512; call += 2) {
            phases.phase(50);
            phases.clearPhases();
        }
        check.same("the 512th call: phase", phases.phase(50), 1);
    }
}
