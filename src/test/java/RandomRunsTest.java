import java.util.ArrayList;
import java.util.List;
import java.util.Random;

/** Long runs of calls by chance, always the same ones, on PitForge and on Reference: all answers must be alike. */
public final class RandomRunsTest {
    private static final int RUNS = 400;
    private static final int CALLS = 512;
    private static final int[] WRONG = {-1, 60, 99, 100, 11, 21, 0, Integer.MIN_VALUE, Integer.MAX_VALUE};

    private final Check check = new Check("RandomRunsTest");
    private final Random chance;
    private final PitForge mine = new PitForge();
    private final Reference due = new Reference();
    private final List<String> calls = new ArrayList<>();
    private final int manner;

    private RandomRunsTest(int seed) {
        chance = new Random(seed);
        manner = seed % 4;
    }

    public static void main(String[] args) {
        int wrong = 0;
        for (int seed = 0; seed < RUNS && wrong < 3; seed++) {
            RandomRunsTest run = new RandomRunsTest(seed);
            run.runAll();
            wrong += run.check.wrong();
        }
        System.out.println("RandomRunsTest: " + (wrong == 0 ? "all answers are as due" : "answers are not as due"));
        if (wrong != 0) {
            System.exit(1);
        }
    }

    private void runAll() {
        while (calls.size() < CALLS - 3 && check.wrong() == 0) {
            if (calls.size() < 20 * (manner + 1)) {
                tell();
            } else {
                any();
            }
        }
        if (check.wrong() != 0) {
            System.out.println("the run: " + String.join("; ", calls));
        }
    }

    private void compare(String call, Check.Call got, Check.Call wanted) {
        calls.add(call);
        check.same(call, Check.outcome(got), Check.outcome(wanted));
    }

    private int pick(int least, int most) {
        return chance.nextInt(40) == 0 ? WRONG[chance.nextInt(WRONG.length)] : least + chance.nextInt(most - least + 1);
    }

    private char kind(String kinds) {
        return chance.nextInt(40) == 0 ? (char) chance.nextInt(256) : kinds.charAt(chance.nextInt(kinds.length()));
    }

    private int price() {
        return chance.nextInt(3) == 0 ? pick(0, 99) : pick(2, 14);
    }

    private void tell() {
        int b = pick(0, 59);
        int g = chance.nextInt(3) == 0 ? pick(0, 99) : pick(5, 40);
        char r = kind("sh");
        switch (chance.nextInt(6)) {
            case 0 -> compare("rock " + b + " " + r, () -> mine.rock(b, r), () -> due.rock(b, r));
            case 1 -> compare("tellTruth " + b + " " + g, () -> mine.tellTruth(b, g), () -> due.tellTruth(b, g));
            case 2, 3, 4 -> compare("sample " + b + " " + g, () -> mine.sample(b, g), () -> due.sample(b, g));
            default -> tellPhase();
        }
    }

    private void tellPhase() {
        int p = price();
        if (chance.nextInt(6) == 0) {
            compare("clearPhases", mine::clearPhases, due::clearPhases);
        } else {
            compare("phase " + p, () -> mine.phase(p), () -> due.phase(p));
        }
    }

    private void any() {
        switch (chance.nextInt(12)) {
            case 0 -> tell();
            case 1 -> askAfterRock();
            case 2 -> askBlock();
            case 3, 4 -> askPit();
            case 5 -> change();
            case 6, 7 -> pass();
            default -> askWeeks();
        }
    }

    private void pass() {
        int weeks = chance.nextInt(4) == 0 ? pick(1, 20) : pick(1, 2);
        if (chance.nextInt(manner + 1) == 0) {
            compare("goOn " + weeks, () -> mine.goOn(weeks), () -> due.goOn(weeks));
        }
    }

    private void change() {
        char k = kind("splcmrw");
        int n = "sp".indexOf(k) >= 0 ? pick(0, 10) : chance.nextInt(2) == 0 ? pick(0, 99) : pick(5, 30);
        boolean m = chance.nextBoolean();
        if (chance.nextInt(4) == 0) {
            compare("mix " + m, () -> mine.mix(m), () -> due.mix(m));
        } else {
            compare("set " + k + " " + n, () -> mine.set(k, n), () -> due.set(k, n));
        }
    }

    private void askBlock() {
        int b = pick(0, 59);
        int p = price();
        switch (chance.nextInt(7)) {
            case 0 -> compare("grade " + b, () -> mine.grade(b), () -> due.grade(b));
            case 1 -> compare("worth " + b + " " + p, () -> mine.worth(b, p), () -> due.worth(b, p));
            case 2 -> compare("isFree " + b, () -> mine.isFree(b), () -> due.isFree(b));
            case 3 -> compare("isDug " + b, () -> mine.isDug(b), () -> due.isDug(b));
            case 4 -> compare("wentTo " + b, () -> mine.wentTo(b), () -> due.wentTo(b));
            case 5 -> compare("dugIn " + b, () -> mine.dugIn(b), () -> due.dugIn(b));
            default -> compare("phaseOf " + b, () -> mine.phaseOf(b), () -> due.phaseOf(b));
        }
    }

    /** The phases of some blocks right behind a rock that was told. */
    private void askAfterRock() {
        int b = pick(0, 59);
        char r = kind("sh");
        compare("rock " + b + " " + r, () -> mine.rock(b, r), () -> due.rock(b, r));
        for (int i = 0; i < 3; i++) {
            int near = pick(0, 59);
            compare("phaseOf " + near, () -> mine.phaseOf(near), () -> due.phaseOf(near));
        }
    }

    private void askPit() {
        int b = pick(0, 59);
        int p = price();
        switch (chance.nextInt(4)) {
            case 0 -> compare("pitWorth " + p, () -> mine.pitWorth(p), () -> due.pitWorth(p));
            case 1 -> compare("pitSize " + p, () -> mine.pitSize(p), () -> due.pitSize(p));
            case 2 -> compare("isInPit " + p + " " + b, () -> mine.isInPit(p, b), () -> due.isInPit(p, b));
            default -> compare("worthWith " + p + " " + b, () -> mine.worthWith(p, b), () -> due.worthWith(p, b));
        }
    }

    private void askWeeks() {
        char k = kind("psd");
        switch (chance.nextInt(12)) {
            case 0 -> compare("week", mine::week, due::week);
            case 1 -> compare("stock", mine::stock, due::stock);
            case 2 -> compare("stockGrades", mine::stockGrades, due::stockGrades);
            case 3 -> compare("water", mine::water, due::water);
            case 4 -> compare("recovery", mine::recovery, due::recovery);
            case 5 -> compare("metal", mine::metal, due::metal);
            case 6 -> compare("money", mine::money, due::money);
            case 7 -> compare("tons " + k, () -> mine.tons(k), () -> due.tons(k));
            case 8 -> compare("factor", mine::factor, due::factor);
            case 9 -> compare("isBalanced", mine::isBalanced, due::isBalanced);
            case 10 -> compare("dugShare", mine::dugShare, due::dugShare);
            default -> compare("meanFed", mine::meanFed, due::meanFed);
        }
    }
}
