import java.util.List;
import java.util.NoSuchElementException;
import java.util.function.Consumer;
import java.util.function.Supplier;

/**
 * Each sentence 'Throws ..' of the promises 2 to 32, and of 'Terms' these two: 'A method that throws an exception changes
 * nothing' and 'If several exceptions apply, the one that is documented first is thrown'.
 */
public final class RefusedCallsTest {
    private static final Class<IndexOutOfBoundsException> NO_BLOCK = IndexOutOfBoundsException.class;
    private static final Class<IllegalArgumentException> WRONG = IllegalArgumentException.class;
    private static final Class<IllegalStateException> FULL = IllegalStateException.class;
    private static final Class<UnsupportedOperationException> DUG = UnsupportedOperationException.class;
    private static final Class<NoSuchElementException> NONE = NoSuchElementException.class;
    private static final Class<ArithmeticException> NOTHING = ArithmeticException.class;

    private static final int[] NO_BLOCKS = {-1, 60, -60, 100, 256, 65536, Integer.MIN_VALUE, Integer.MAX_VALUE};
    private static final int[] NO_HUNDRED = {-1, 100, 256, 65536, Integer.MIN_VALUE, Integer.MAX_VALUE};

    /** A dug block, and one that has not been dug, of the busy mine. */
    private static final int GONE = 0;
    private static final int THERE = 37;

    private final Check check = new Check("RefusedCallsTest");
    private final List<String> newLook = Look.at(PitForge::new);
    private final List<String> busyLook = Look.at(Mines::busy);

    public static void main(String[] args) {
        RefusedCallsTest test = new RefusedCallsTest();
        test.theBusyMine();
        test.noSuchBlock();
        test.noSuchRock();
        test.gradeOutOfRange();
        test.priceOutOfRange();
        test.noMoreSamples();
        test.alreadyDug();
        test.phaseNotGreater();
        test.noMorePhases();
        test.setRefused();
        test.weeksOutOfRange();
        test.notDug();
        test.noRecovery();
        test.noSuchTons();
        test.noFactor();
        test.noMeanFed();
        test.check.close();
    }

    /** That a call throws this, on an object made so, and that the object answers all as one without that call. */
    private void refused(String what, Supplier<PitForge> maker, List<String> look, Class<? extends RuntimeException> due,
            Consumer<PitForge> call) {
        List<String> behind = Look.at(() -> {
            PitForge mine = maker.get();
            check.fails(what, due, () -> {
                call.accept(mine);
                return "nothing";
            });
            return mine;
        });
        for (int i = 0; i < look.size(); i++) {
            if (!look.get(i).equals(behind.get(i))) {
                check.same(what + ", then " + look.get(i), behind.get(i), look.get(i));
                return;
            }
        }
    }

    private void anew(String what, Class<? extends RuntimeException> due, Consumer<PitForge> call) {
        refused(what + " (new)", PitForge::new, newLook, due, call);
    }

    private void busy(String what, Class<? extends RuntimeException> due, Consumer<PitForge> call) {
        refused(what + " (busy)", Mines::busy, busyLook, due, call);
    }

    private void always(String what, Class<? extends RuntimeException> due, Consumer<PitForge> call) {
        anew(what, due, call);
        busy(what, due, call);
    }

    private void theBusyMine() {
        PitForge mine = Mines.busy();
        check.same("a dug block", mine.isDug(GONE), true);
        check.same("another block", mine.isDug(THERE), false);
        check.same("something in stock", mine.stock() > 2, true);
        check.same("four phases", mine.clearPhases(), 4);
        check.fails("forty samples", FULL, () -> mine.sample(THERE, 50));
    }

    /** Promises 2 to 8, 11, 12, 15, 20 and 21: 'if there is no such block'; it is the first of several, but behind a price. */
    private void noSuchBlock() {
        for (int b : NO_BLOCKS) {
            always("rock " + b, NO_BLOCK, m -> m.rock(b, 'h'));
            always("rock of no kind, " + b, NO_BLOCK, m -> m.rock(b, 'x'));
            always("sample " + b, NO_BLOCK, m -> m.sample(b, 50));
            always("sample of 100, " + b, NO_BLOCK, m -> m.sample(b, 100));
            always("tellTruth " + b, NO_BLOCK, m -> m.tellTruth(b, 50));
            always("tellTruth of -1, " + b, NO_BLOCK, m -> m.tellTruth(b, -1));
            always("grade " + b, NO_BLOCK, m -> m.grade(b));
            always("worth " + b, NO_BLOCK, m -> m.worth(b, 10));
            always("worth at 100, " + b, NO_BLOCK, m -> m.worth(b, 100));
            always("isFree " + b, NO_BLOCK, m -> m.isFree(b));
            always("isDug " + b, NO_BLOCK, m -> m.isDug(b));
            always("isInPit " + b, NO_BLOCK, m -> m.isInPit(10, b));
            always("worthWith " + b, NO_BLOCK, m -> m.worthWith(10, b));
            always("phaseOf " + b, NO_BLOCK, m -> m.phaseOf(b));
            always("wentTo " + b, NO_BLOCK, m -> m.wentTo(b));
            always("dugIn " + b, NO_BLOCK, m -> m.dugIn(b));
        }
    }

    /** Promise 2: 'if there is no such rock'. */
    private void noSuchRock() {
        for (char rock : new char[] {'x', 'S', 'H', 'r', 't', 'g', 'i', 0, 's' + 256, 'h' + 256, 65535}) {
            always("rock of the kind " + (int) rock, WRONG, m -> m.rock(THERE, rock));
            busy("rock of a dug block, of the kind " + (int) rock, WRONG, m -> m.rock(GONE, rock));
        }
    }

    /** Promises 3 and 4: 'if the grade is out of range'. */
    private void gradeOutOfRange() {
        for (int grade : NO_HUNDRED) {
            always("sample of " + grade, WRONG, m -> m.sample(THERE, grade));
            always("tellTruth of " + grade, WRONG, m -> m.tellTruth(THERE, grade));
            busy("tellTruth of a dug block, of " + grade, WRONG, m -> m.tellTruth(GONE, grade));
        }
    }

    /** Promises 6 and 9 to 13: 'if the price is out of range'; ahead of all else, but for a block of 'worth'. */
    private void priceOutOfRange() {
        for (int price : NO_HUNDRED) {
            always("worth at " + price, WRONG, m -> m.worth(THERE, price));
            always("pitWorth at " + price, WRONG, m -> m.pitWorth(price));
            always("pitSize at " + price, WRONG, m -> m.pitSize(price));
            always("isInPit at " + price, WRONG, m -> m.isInPit(price, THERE));
            always("isInPit of 60, at " + price, WRONG, m -> m.isInPit(price, 60));
            always("worthWith at " + price, WRONG, m -> m.worthWith(price, THERE));
            always("worthWith of 60, at " + price, WRONG, m -> m.worthWith(price, 60));
            busy("worthWith of a dug block, at " + price, WRONG, m -> m.worthWith(price, GONE));
            always("phase at " + price, WRONG, m -> m.phase(price));
        }
    }

    /** Promise 3: 'if there are 40'. */
    private void noMoreSamples() {
        busy("sample 41", FULL, m -> m.sample(THERE, 50));
        busy("sample 41, of a dug block", FULL, m -> m.sample(GONE, 0));
    }

    /** Promises 2, 4 and 12: 'if it has been dug'. */
    private void alreadyDug() {
        busy("rock of a dug block, another", DUG, m -> m.rock(GONE, 'h'));
        busy("rock of a dug block, the same", DUG, m -> m.rock(GONE, 's'));
        busy("tellTruth of a dug block", DUG, m -> m.tellTruth(GONE, 50));
        busy("worthWith of a dug block", DUG, m -> m.worthWith(10, GONE));
        busy("worthWith of a dug block of the level 1", DUG, m -> m.worthWith(10, 10));
    }

    /** Promise 13: 'if it is out of range, or not greater', also if there are 4. */
    private void phaseNotGreater() {
        for (int price : new int[] {7, 6, 4, 0}) {
            busy("a fifth phase at " + price, WRONG, m -> m.phase(price));
        }
        Supplier<PitForge> maker = () -> {
            PitForge mine = new PitForge();
            mine.phase(50);
            return mine;
        };
        List<String> look = Look.at(maker);
        for (int price : new int[] {50, 49, 0, -1, 100}) {
            refused("a second phase at " + price, maker, look, WRONG, m -> m.phase(price));
        }
    }

    /** Promise 13: 'if there are 4'. */
    private void noMorePhases() {
        busy("a fifth phase at 8", FULL, m -> m.phase(8));
        busy("a fifth phase at 99", FULL, m -> m.phase(99));
    }

    /** Promise 16: 'if there is no such kind, or the number is out of range'. */
    private void setRefused() {
        for (char kind : new char[] {'x', 'S', 'P', 'd', 'h', 0, 's' + 256, 65535}) {
            always("set of the kind " + (int) kind, WRONG, m -> m.set(kind, 1));
        }
        for (int number : new int[] {-1, 11, 99, 256, Integer.MIN_VALUE, Integer.MAX_VALUE}) {
            always("set s to " + number, WRONG, m -> m.set('s', number));
            always("set p to " + number, WRONG, m -> m.set('p', number));
        }
        for (char kind : "clmrw".toCharArray()) {
            for (int number : NO_HUNDRED) {
                always("set " + kind + " to " + number, WRONG, m -> m.set(kind, number));
            }
        }
    }

    /** Promise 18: 'if it is out of range'. */
    private void weeksOutOfRange() {
        for (int weeks : new int[] {0, 21, -1, 256, 65536, Integer.MIN_VALUE, Integer.MAX_VALUE}) {
            always("goOn " + weeks, WRONG, m -> m.goOn(weeks));
        }
    }

    /** Promises 20 and 21: 'if it has not been dug'. */
    private void notDug() {
        for (int block : new int[] {THERE, 59}) {
            always("wentTo " + block, NONE, m -> m.wentTo(block));
            always("dugIn " + block, NONE, m -> m.dugIn(block));
        }
        anew("wentTo 0", NONE, m -> m.wentTo(0));
        anew("dugIn 0", NONE, m -> m.dugIn(0));
    }

    /** Promise 25: 'if there was none', no week in which the plant had something. */
    private void noRecovery() {
        anew("recovery", NONE, PitForge::recovery);
        Supplier<PitForge> maker = () -> {
            PitForge mine = Mines.withTruths(5, 50);
            mine.set('p', 0);
            mine.goOn(1);
            return mine;
        };
        refused("recovery of a plant without room", maker, Look.at(maker), NONE, PitForge::recovery);
    }

    /** Promise 28: 'if there is no such kind'. */
    private void noSuchTons() {
        for (char kind : new char[] {'x', 'P', 'S', 'D', 'h', 'c', 0, 'p' + 256, 65535}) {
            always("tons of the kind " + (int) kind, WRONG, m -> m.tons(kind));
        }
    }

    /** Promise 29: 'if the model had nothing for the dug blocks, or none was dug'. */
    private void noFactor() {
        anew("factor of nothing", NOTHING, PitForge::factor);
        Supplier<PitForge> maker = () -> {
            PitForge mine = Mines.withLens(14, 40);
            mine.phase(10);
            mine.tellTruth(3, 99);
            mine.goOn(1);
            return mine;
        };
        check.same("three blocks were dug", maker.get().dugShare(), 3f / 60f);
        refused("factor of a model of nothing", maker, Look.at(maker), NOTHING, PitForge::factor);
    }

    /** Promise 32: 'if it had nothing'. */
    private void noMeanFed() {
        anew("meanFed of nothing", NOTHING, PitForge::meanFed);
        Supplier<PitForge> maker = () -> {
            PitForge mine = Mines.withTruths(5, 5, 5);
            mine.goOn(1);
            return mine;
        };
        check.same("all in the dump", maker.get().tons('d'), 30);
        refused("meanFed of what went to the dump", maker, Look.at(maker), NOTHING, PitForge::meanFed);
    }
}
