import java.util.NoSuchElementException;

/** The promises 16 to 32: weeks and figures. */
public final class WeeksTest {
    private static final Class<IndexOutOfBoundsException> NO_BLOCK = IndexOutOfBoundsException.class;
    private static final Class<IllegalArgumentException> WRONG = IllegalArgumentException.class;
    private static final Class<NoSuchElementException> NONE = NoSuchElementException.class;
    private static final Class<ArithmeticException> NOTHING = ArithmeticException.class;

    private final Check check = new Check("WeeksTest");

    public static void main(String[] args) {
        WeeksTest test = new WeeksTest();
        test.set();
        test.mix();
        test.goOn();
        test.orderOfDigging();
        test.orderOfPhases();
        test.phasesStandForTheWeek();
        test.flood();
        test.floodAtTheTop();
        test.floodBounds();
        test.floodByEachColumn();
        test.wentToAndDugIn();
        test.haulage();
        test.trueGradeByTheModel();
        test.twoWeeks();
        test.recovery();
        test.recoveryBehindIdleWeeks();
        test.stockpileInLayers();
        test.stockpileThatMixes();
        test.heapAheadOfLayers();
        test.market();
        test.pumping();
        test.tons();
        test.factor();
        test.isBalanced();
        test.figures();
        test.check.close();
    }

    private void set() {
        PitForge mine = new PitForge();
        String kinds = "spclmrw";
        int[] first = {3, 2, 20, 10, 10, 10, 5};
        int[] most = {10, 10, 99, 99, 99, 99, 99};
        for (int i = 0; i < kinds.length(); i++) {
            char kind = kinds.charAt(i);
            int over = most[i] + 1;
            check.same("first of " + kind, mine.set(kind, 0), first[i]);
            check.same("least of " + kind, mine.set(kind, most[i]), 0);
            check.fails("too much of " + kind, WRONG, () -> mine.set(kind, over));
            check.fails("too little of " + kind, WRONG, () -> mine.set(kind, -1));
            check.same("most of " + kind, mine.set(kind, i), most[i]);
        }
        for (int i = 0; i < kinds.length(); i++) {
            check.same("kept " + kinds.charAt(i), mine.set(kinds.charAt(i), 1), i);
        }
        for (char kind : new char[] {'x', 'S', 'd', ' ', 0, 255}) {
            check.fails("no kind " + (int) kind, WRONG, () -> mine.set(kind, 1));
        }
    }

    private void mix() {
        PitForge mine = new PitForge();
        check.same("mix at first", mine.mix(true), false);
        check.same("mix again", mine.mix(true), true);
        check.same("mix no more", mine.mix(false), true);
        check.same("mix at last", mine.mix(false), false);
    }

    private void goOn() {
        PitForge mine = new PitForge();
        for (int weeks : new int[] {0, -1, 21, Integer.MIN_VALUE, Integer.MAX_VALUE}) {
            check.fails("goOn " + weeks, WRONG, () -> mine.goOn(weeks));
        }
        check.same("no week went by", mine.week(), 0);
        check.same("without phases", mine.goOn(1), 0);
        check.same("one week", mine.week(), 1);
        check.same("the longest time", mine.goOn(20), 0);
        check.same("twenty weeks more", mine.week(), 21);
        PitForge dug = Mines.withTruths();
        check.same("three a week", dug.goOn(2), 6);
        dug.set('s', 0);
        check.same("no shovel", dug.goOn(1), 0);
        dug.set('s', 10);
        check.same("the greatest shovel", dug.goOn(1), 10);
        dug.set('w', 99);
        check.same("what is left", dug.goOn(20), 44);
        check.same("nothing is left", dug.goOn(5), 0);
        check.same("all weeks", dug.week(), 29);
    }

    private void orderOfDigging() {
        PitForge mine = Mines.withTruths();
        mine.set('w', 99);
        mine.set('s', 1);
        mine.rock(10, 'h');
        for (int level = 0; level < 6; level++) {
            for (int column = 0; column < 10; column++) {
                int block = 10 * level + column;
                check.same("nothing but it, " + block, mine.goOn(1), 1);
                check.same("dug in its turn, " + block, mine.dugIn(block), block);
            }
        }
    }

    private void orderOfPhases() {
        PitForge mine = Mines.withLens(25, 99);
        mine.sample(0, 20);
        mine.phase(10);
        mine.phase(98);
        mine.set('w', 99);
        mine.set('s', 9);
        check.same("the first phase whole", mine.goOn(1), 9);
        for (int block : new int[] {3, 4, 5, 6, 7, 14, 15, 16, 25}) {
            check.same("in the first week, " + block, mine.dugIn(block), 0);
        }
        check.same("other blocks were free", mine.isFree(0), true);
        check.same("and in a phase", mine.phaseOf(0), 1);
        mine.set('s', 1);
        mine.goOn(1);
        check.same("then the next phase", mine.dugIn(0), 1);
    }

    private void phasesStandForTheWeek() {
        PitForge poor = new PitForge();
        poor.sample(0, 50);
        poor.phase(10);
        for (int b = 0; b < 10; b++) {
            poor.tellTruth(b, 0);
        }
        poor.set('s', 5);
        check.same("five of the poor", poor.goOn(1), 5);
        check.same("none thereafter", poor.goOn(1), 0);
        check.same("no phase thereafter", poor.phaseOf(5), -1);
    }

    private void flood() {
        PitForge mine = Mines.withTruths();
        mine.set('s', 10);
        mine.set('r', 0);
        mine.set('w', 0);
        mine.goOn(1);
        mine.set('s', 5);
        mine.goOn(1);
        mine.set('r', 51);
        check.same("dry as the week begins", mine.goOn(1), 5);
        mine.set('r', 0);
        check.same("the level 1 has all been dug", mine.isDug(19), true);
        check.same("the level 1 is the deepest, the level 2 below it", mine.goOn(1), 0);
        mine.set('w', 1);
        check.same("still", mine.goOn(1), 0);
        check.same("50 now", mine.water(), 50);
        mine.set('s', 1);
        check.same("50 is no flood", mine.goOn(1), 1);
        check.same("the level 2", mine.isDug(20), true);
        mine.set('w', 0);
        mine.set('r', 99);
        mine.goOn(1);
        check.same("the deepest is the level 2", mine.goOn(1), 0);
    }

    private void floodAtTheTop() {
        PitForge mine = Mines.withTruths();
        mine.set('w', 0);
        mine.set('r', 99);
        mine.set('s', 0);
        mine.goOn(1);
        mine.set('s', 4);
        check.same("nothing dug yet, nothing under water", mine.goOn(1), 4);
        check.same("the level 0 never is", mine.goOn(1), 4);
        check.same("two are left of it", mine.goOn(1), 2);
        check.same("below it all is", mine.goOn(1), 0);
        check.same("though it lies free", mine.isFree(10), true);
        PitForge deep = Mines.withTruths();
        deep.set('w', 0);
        deep.set('r', 0);
        for (int b = 10; b < 60; b++) {
            deep.rock(b, 'h');
        }
        deep.set('s', 10);
        deep.goOn(2);
        deep.set('s', 3);
        deep.set('r', 60);
        check.same("three of the level 2", deep.goOn(1), 3);
        check.same("under water as the level of the deepest", deep.goOn(1), 0);
        check.same("not free for it", deep.isFree(23), true);
    }

    /** The levels above the deepest one that was dug stay dry. */
    private void floodBounds() {
        PitForge mine = Mines.withLens(24, 99);
        mine.rock(24, 'h');
        mine.rock(14, 'h');
        mine.phase(6);
        mine.set('w', 0);
        mine.set('r', 99);
        mine.goOn(1);
        check.same("down to the level 2", mine.isDug(24), true);
        for (int block : new int[] {0, 9, 59, 50, 39}) {
            mine.sample(block, 99);
        }
        mine.clearPhases();
        mine.phase(98);
        mine.set('s', 10);
        check.same("nine of the level 0 and one of the level 1", mine.goOn(1), 10);
        check.same("the level 0", mine.isDug(9), true);
        check.same("the level 1, above the water", mine.isDug(10), true);
        check.same("the level 1 goes on", mine.goOn(1), 8);
        check.same("the level 2 is under water", mine.goOn(1), 0);
    }

    private void floodByEachColumn() {
        for (int column = 0; column < 10; column++) {
            PitForge mine = Mines.withLens(10 + column, 99);
            mine.rock(10 + column, 'h');
            mine.phase(5);
            mine.set('r', 51);
            mine.set('w', 0);
            check.same("two blocks of the column " + column, mine.goOn(1), 2);
            mine.sample(20 + column, 99);
            mine.rock(20 + column, 'h');
            mine.phase(9);
            check.same("the next is in a phase, " + column, mine.phaseOf(20 + column), 1);
            check.same("no other block is, " + column, mine.goOn(4), 0);
            check.same("under water by the column " + column, mine.isDug(20 + column), false);
            mine.set('w', 99);
            mine.set('r', 0);
            mine.goOn(10);
            check.same("pumped dry for the column " + column, mine.isDug(20 + column), true);
        }
    }

    private void wentToAndDugIn() {
        PitForge mine = Mines.withTruths(20, 10, 9);
        for (int block : new int[] {-1, 60, Integer.MIN_VALUE, Integer.MAX_VALUE}) {
            check.fails("wentTo " + block, NO_BLOCK, () -> mine.wentTo(block));
            check.fails("dugIn " + block, NO_BLOCK, () -> mine.dugIn(block));
        }
        check.fails("wentTo of no dug block", NONE, () -> mine.wentTo(0));
        check.fails("dugIn of no dug block", NONE, () -> mine.dugIn(0));
        mine.set('p', 1);
        mine.goOn(1);
        check.same("at the cut-off", mine.wentTo(0), 'p');
        check.same("at the low cut-off", mine.wentTo(1), 's');
        check.same("below it", mine.wentTo(2), 'd');
        check.same("in the week 0", mine.dugIn(2), 0);
        check.fails("wentTo of the next", NONE, () -> mine.wentTo(3));
        mine.goOn(1);
        check.same("in the week 1", mine.dugIn(5), 1);
        mine.set('s', 0);
        mine.set('p', 10);
        mine.goOn(1);
        check.same("nothing in stock", mine.stock(), 0);
        check.same("taken from the stockpile since", mine.wentTo(1), 's');
    }

    private void haulage() {
        PitForge mine = Mines.withTruths(30, 29, 40, 50, 14, 15, 0, 1);
        mine.set('c', 30);
        mine.set('l', 15);
        mine.set('s', 8);
        mine.goOn(1);
        check.same("at the new cut-off", mine.wentTo(0), 'p');
        check.same("below it", mine.wentTo(1), 's');
        check.same("the last room", mine.wentTo(2), 'p');
        check.same("no room", mine.wentTo(3), 's');
        check.same("below the new low cut-off", mine.wentTo(4), 'd');
        check.same("at it", mine.wentTo(5), 's');
        PitForge crossed = Mines.withTruths(50, 40, 39, 45, 46);
        crossed.set('c', 40);
        crossed.set('l', 46);
        crossed.set('s', 5);
        crossed.goOn(1);
        check.same("to the plant in spite of the low cut-off", crossed.wentTo(1), 'p');
        check.same("below both", crossed.wentTo(2), 'd');
        check.same("no room, below the low cut-off", crossed.wentTo(3), 'd');
        check.same("no room, at the low cut-off", crossed.wentTo(4), 's');
        PitForge zero = Mines.withTruths(0, 0);
        zero.set('c', 0);
        zero.set('l', 0);
        zero.set('p', 1);
        zero.set('s', 2);
        zero.goOn(1);
        check.same("nothing at a cut-off of 0", zero.wentTo(0), 'p');
        check.same("nothing at a low cut-off of 0", zero.wentTo(1), 's');
        check.same("a recovery of nothing", zero.recovery(), 90);
    }

    private void trueGradeByTheModel() {
        PitForge mine = new PitForge();
        mine.sample(0, 50);
        mine.sample(2, 30);
        mine.phase(50);
        mine.tellTruth(0, 10);
        mine.set('p', 0);
        mine.goOn(1);
        // block 0 makes its model 30; block 1 is 30 then: (50 + 10 + 30) / 3
        check.same("the model as the block is dug", mine.stockGrades(), 10 + 30 + 30);
        check.same("the model's share: 50 + 30 + 30", mine.factor(), 100 * 70 / 110);
    }

    private void twoWeeks() {
        PitForge mine = Mines.withTruths(50, 15, 5, 20, 19, 10);
        mine.goOn(1);
        check.same("week 0, metal: 450 and 135", mine.metal(), 585L);
        check.same("week 0, money", mine.money(), 585L - 2 * 200 - 3 * 30 - 5);
        check.same("week 0, water", mine.water(), 5);
        check.same("week 0, recovery", mine.recovery(), 90);
        check.same("week 0, stock", mine.stock(), 0);
        mine.goOn(1);
        check.same("week 1, recovery: 32.5 to 19.5", mine.recovery(), 77);
        check.same("week 1, metal: 154 and 146", mine.metal(), 585L + 154 + 146);
        check.same("week 1, money", mine.money(), 90L + 300 - 2 * 200 - 3 * 30 - 5);
        check.same("week 1, stock", mine.stock(), 1);
        check.same("week 1, stockGrades", mine.stockGrades(), 10);
        check.same("week 1, meanFed", mine.meanFed(), (50 + 15 + 20 + 19) / 4.0);
    }

    private void recovery() {
        PitForge mine = Mines.withTruths(50, 50, 50, 51, 49, 50, 99, 99, 20, 20);
        mine.set('s', 2);
        check.fails("no week yet", NONE, () -> mine.recovery());
        mine.goOn(1);
        check.same("the first time", mine.recovery(), 90);
        mine.goOn(1);
        check.same("a half less: 89.5 goes to 90", mine.recovery(), 90);
        mine.goOn(1);
        check.same("one less, downwards", mine.recovery(), 89);
        mine.goOn(1);
        check.same("49.5 off: 50 at least", mine.recovery(), 50);
        mine.goOn(1);
        check.same("79 off, downwards", mine.recovery(), 50);
        PitForge odd = Mines.withTruths(50, 50, 51, 52, 95, 88, 50, 51);
        odd.set('s', 2);
        odd.goOn(2);
        check.same("one and a half more: 88.5 goes to 88", odd.recovery(), 88);
        odd.goOn(1);
        check.same("91.5 less 51.5, just 50", odd.recovery(), 50);
        odd.goOn(1);
        check.same("41 off", odd.recovery(), 50);
        PitForge thirds = Mines.withTruths(50, 50, 50, 50, 50, 51);
        thirds.set('p', 3);
        thirds.goOn(2);
        check.same("a third more: 89.67", thirds.recovery(), 90);
        PitForge fewer = Mines.withTruths(60, 40, 39, 38);
        fewer.set('s', 2);
        fewer.goOn(1);
        fewer.set('s', 1);
        fewer.goOn(1);
        check.same("one block behind two", fewer.recovery(), 79);
        check.same("metal of one block behind two", fewer.metal(), 540L + 360 + 308);
        fewer.set('p', 3);
        fewer.goOn(1);
        check.same("one less", fewer.recovery(), 89);
        PitForge more = Mines.withTruths(50, 39, 39);
        more.set('s', 1);
        more.goOn(1);
        more.set('s', 2);
        more.goOn(1);
        check.same("two blocks behind one", more.recovery(), 79);
        PitForge near = Mines.withTruths(20, 20, 59, 59);
        near.set('s', 2);
        near.goOn(2);
        check.same("39 off", near.recovery(), 51);
    }

    private void recoveryBehindIdleWeeks() {
        PitForge mine = Mines.withTruths(50, 50, 40, 40);
        mine.set('s', 0);
        mine.goOn(2);
        check.fails("the plant had nothing", NONE, () -> mine.recovery());
        mine.set('s', 2);
        mine.goOn(1);
        mine.set('s', 0);
        mine.goOn(3);
        check.same("idle weeks leave it", mine.recovery(), 90);
        check.same("and make no metal", mine.metal(), 900L);
        mine.set('s', 2);
        mine.goOn(1);
        check.same("against the last week with something", mine.recovery(), 80);
        check.same("metal at 80", mine.metal(), 900L + 640);
    }

    /** A mine whose stockpile has the grades 11, 21, 41 and 80 in this order. */
    private PitForge stocked() {
        PitForge mine = Mines.withTruths(11, 21, 41, 80);
        mine.set('p', 0);
        mine.set('s', 4);
        mine.goOn(1);
        mine.set('s', 0);
        mine.set('p', 1);
        return mine;
    }

    /** Feeds one block out of the stockpile and looks at its grade by what is left. */
    private void gives(String about, PitForge mine, int grade) {
        int before = mine.stockGrades();
        int blocks = mine.stock();
        mine.goOn(1);
        check.same(about + ": grade", before - mine.stockGrades(), grade);
        check.same(about + ": blocks", blocks - mine.stock(), 1);
    }

    private void stockpileInLayers() {
        PitForge mine = stocked();
        check.same("stock", mine.stock(), 4);
        check.same("stockGrades", mine.stockGrades(), 153);
        gives("layers 1", mine, 11);
        gives("layers 2", mine, 21);
        check.same("their mean", mine.meanFed(), 16.0);
        mine.set('p', 10);
        mine.goOn(1);
        check.same("the plant takes all", mine.stock(), 0);
        check.same("all grades", mine.stockGrades(), 0);
        mine.goOn(1);
        check.same("nothing is left to take", mine.tons('p'), 40);
    }

    private void stockpileThatMixes() {
        PitForge mine = stocked();
        mine.mix(true);
        gives("mix 153 by 4", mine, 38);
        gives("mix 115 by 3", mine, 38);
        gives("mix 77 by 2", mine, 38);
        gives("mix 39 by 1", mine, 39);
        check.same("empty", mine.stock(), 0);
        check.same("no grades", mine.stockGrades(), 0);
        PitForge back = stocked();
        back.mix(true);
        back.mix(false);
        gives("it mixed without giving", back, 11);
        back.mix(true);
        back.set('p', 0);
        back.goOn(1);
        back.mix(false);
        back.set('p', 1);
        gives("nor did the week without room", back, 21);
    }

    private void heapAheadOfLayers() {
        PitForge mine = stocked();
        mine.mix(true);
        gives("heap, 153 by 4", mine, 38);
        mine.set('p', 0);
        mine.set('s', 2);
        mine.tellTruth(4, 12);
        mine.tellTruth(5, 70);
        mine.goOn(1);
        mine.mix(false);
        mine.set('p', 1);
        mine.set('s', 0);
        gives("heap, not mixing, 115 by 3", mine, 38);
        gives("heap, not mixing, 77 by 2", mine, 38);
        mine.mix(true);
        gives("39 and 12 and 70 by 3", mine, 40);
        mine.mix(false);
        gives("a former heap included, 81 by 2", mine, 40);
        gives("the last of the heap", mine, 41);
        PitForge later = stocked();
        later.mix(true);
        gives("heap", later, 38);
        later.mix(false);
        later.set('p', 0);
        later.set('s', 2);
        later.tellTruth(4, 12);
        later.tellTruth(5, 70);
        later.goOn(1);
        later.set('p', 3);
        later.set('s', 0);
        later.goOn(1);
        later.set('p', 1);
        gives("behind the heap, the first that came", later, 12);
        gives("behind the heap, the second", later, 70);
    }

    private void market() {
        PitForge mine = Mines.withTruths(50, 15);
        mine.set('s', 2);
        mine.set('w', 0);
        check.same("market before", mine.set('m', 7), 10);
        mine.goOn(1);
        check.same("585 at 7: 409.5", mine.money(), 409L - 400 - 60);
        check.same("the metal is the same", mine.metal(), 585L);
        PitForge free = Mines.withTruths(50, 15);
        free.set('s', 2);
        free.set('w', 0);
        free.set('m', 0);
        free.goOn(1);
        check.same("a price of 0", free.money(), -460L);
        PitForge parts = Mines.withTruths(51, 51, 51, 51);
        parts.set('s', 2);
        parts.set('w', 0);
        parts.set('m', 9);
        parts.goOn(2);
        check.same("two weeks of 918 at 9, each cut", parts.money(), 2L * (826 - 400 - 60));
    }

    private void pumping() {
        PitForge mine = new PitForge();
        mine.goOn(1);
        check.same("10 less 5", mine.water(), 5);
        check.same("5 pumped are a begun ten", mine.money(), -5L);
        mine.set('r', 6);
        mine.set('w', 11);
        mine.goOn(1);
        check.same("11 less 11", mine.water(), 0);
        check.same("11 pumped are two tens", mine.money(), -15L);
        mine.set('w', 99);
        mine.goOn(1);
        check.same("6 less 6", mine.water(), 0);
        check.same("6 pumped", mine.money(), -20L);
        mine.set('r', 10);
        mine.goOn(1);
        check.same("10 pumped are one ten", mine.money(), -25L);
        mine.set('r', 0);
        mine.goOn(1);
        check.same("nothing pumped", mine.money(), -25L);
        mine.set('r', 99);
        mine.set('w', 0);
        mine.goOn(20);
        check.same("no pump", mine.water(), 20 * 99);
        check.same("no pump, no money", mine.money(), -25L);
    }

    private void tons() {
        PitForge mine = Mines.withTruths(50, 40, 30, 15, 5);
        for (char kind : new char[] {'x', 'P', 'h', 0, 255}) {
            check.fails("tons of " + (int) kind, WRONG, () -> mine.tons(kind));
        }
        mine.set('s', 5);
        mine.goOn(1);
        check.same("through the plant", mine.tons('p'), 20);
        check.same("in the stockpile", mine.tons('s'), 20);
        check.same("in the dump", mine.tons('d'), 10);
        mine.set('s', 0);
        mine.set('p', 1);
        mine.goOn(1);
        check.same("through the plant, one more", mine.tons('p'), 30);
        check.same("in the stockpile now", mine.tons('s'), 10);
        check.same("in the dump still", mine.tons('d'), 10);
    }

    private void factor() {
        PitForge mine = Mines.withTruths(50, 0, 10);
        check.fails("none was dug", NOTHING, () -> mine.factor());
        mine.set('s', 1);
        mine.goOn(1);
        check.same("50 of 99", mine.factor(), 50);
        mine.goOn(2);
        check.same("60 of 297", mine.factor(), 20);
        PitForge waste = Mines.withLens(14, 40);
        waste.sample(4, 1);
        waste.sample(4, 1);
        waste.phase(10);
        waste.set('s', 1);
        waste.tellTruth(3, 99);
        check.same("the model of a waste block", waste.grade(3), 0);
        check.same("the model of the next", waste.grade(4), 1);
        waste.goOn(1);
        check.same("a block was dug", waste.isDug(3), true);
        check.fails("the model had nothing for it", NOTHING, () -> waste.factor());
        PitForge one = Mines.withLens(14, 40);
        one.sample(4, 1);
        one.sample(4, 1);
        one.rock(14, 'h');
        one.tellTruth(4, 99);
        one.phase(10);
        one.set('s', 1);
        one.goOn(1);
        check.same("99 of 1", one.factor(), 9900);
        PitForge more = Mines.withTruths(99, 99, 99, 99);
        more.clearPhases();
        more.phase(3);
        more.set('s', 10);
        more.goOn(6);
        check.same("by the model", more.factor(), 100);
    }

    private void isBalanced() {
        PitForge mine = Mines.withTruths(50, 40, 30, 15, 5);
        mine.set('w', 99);
        mine.rock(12, 'h');
        mine.rock(33, 'h');
        check.same("at first", mine.isBalanced(), true);
        for (int i = 0; i < 22; i++) {
            mine.mix(i % 3 == 0);
            mine.set('p', i % 5);
            mine.goOn(1);
            check.same("behind the week " + i, mine.isBalanced(), true);
        }
        check.same("all dug", mine.dugShare(), 1.0f);
        PitForge quick = Mines.withLens(25, 99);
        quick.phase(10);
        quick.set('s', 9);
        check.same("three levels in one week", quick.goOn(1), 9);
        check.same("by the order of digging", quick.isBalanced(), true);
    }

    private void figures() {
        PitForge mine = Mines.withTruths(50, 25, 31);
        check.fails("meanFed of nothing", NOTHING, () -> mine.meanFed());
        check.same("dugShare of nothing", mine.dugShare(), 0.0f);
        mine.set('p', 0);
        mine.goOn(1);
        check.fails("meanFed without room", NOTHING, () -> mine.meanFed());
        check.same("dugShare of three", mine.dugShare(), 3f / 60f);
        mine.set('p', 1);
        mine.set('s', 0);
        mine.goOn(1);
        check.same("meanFed of one", mine.meanFed(), 50.0);
        mine.set('p', 2);
        mine.goOn(1);
        check.same("meanFed of three", mine.meanFed(), 106.0 / 3.0);
        mine.set('s', 1);
        mine.goOn(1);
        check.same("meanFed of four", mine.meanFed(), 205.0 / 4.0);
        check.same("dugShare of four", mine.dugShare(), 4f / 60f);
    }
}
