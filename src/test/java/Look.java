import java.util.ArrayList;
import java.util.List;
import java.util.function.Supplier;

/**
 * All that the calls of an object answer, to see whether two objects are alike. Each part spends an object of its own:
 * what an object answers behind its 512th call is free.
 */
final class Look {
    private final List<String> lines = new ArrayList<>();

    private Look() { }

    static List<String> at(Supplier<PitForge> maker) {
        Look look = new Look();
        look.blocks(maker.get());
        look.digging(maker.get());
        look.pits(maker.get());
        look.told(maker.get());
        look.figures("now", maker.get());
        look.limits(maker.get());
        look.future(maker.get());
        return look.lines;
    }

    private void see(String call, Check.Call asked) {
        lines.add(call + " = " + Check.outcome(asked));
    }

    private void blocks(PitForge mine) {
        for (int b = 0; b < 60; b++) {
            int block = b;
            see("grade " + b, () -> mine.grade(block));
            see("worth " + b, () -> mine.worth(block, 10));
            see("isFree " + b, () -> mine.isFree(block));
            see("phaseOf " + b, () -> mine.phaseOf(block));
        }
    }

    private void digging(PitForge mine) {
        for (int b = 0; b < 60; b++) {
            int block = b;
            see("isDug " + b, () -> mine.isDug(block));
            see("wentTo " + b, () -> mine.wentTo(block));
            see("dugIn " + b, () -> mine.dugIn(block));
        }
    }

    private void pits(PitForge mine) {
        for (int b = 0; b < 60; b++) {
            int block = b;
            see("isInPit " + b, () -> mine.isInPit(5, block));
            see("worthWith " + b, () -> mine.worthWith(5, block));
        }
        for (int price = 0; price < 100; price += 9) {
            int at = price;
            see("pitWorth " + at, () -> mine.pitWorth(at));
            see("pitSize " + at, () -> mine.pitSize(at));
        }
    }

    private void told(PitForge mine) {
        for (int b = 0; b < 60; b++) {
            int block = b;
            see("rock " + b, () -> mine.rock(block, 's'));
            see("tellTruth " + b, () -> mine.tellTruth(block, 1));
        }
        for (char kind : "spclmrw".toCharArray()) {
            see("set " + kind, () -> mine.set(kind, 1));
        }
        see("mix", () -> mine.mix(true));
    }

    private void figures(String when, PitForge mine) {
        see("week, " + when, mine::week);
        see("stock, " + when, mine::stock);
        see("stockGrades, " + when, mine::stockGrades);
        see("water, " + when, mine::water);
        see("recovery, " + when, mine::recovery);
        see("metal, " + when, mine::metal);
        see("money, " + when, mine::money);
        for (char kind : "psd".toCharArray()) {
            see("tons " + kind + ", " + when, () -> mine.tons(kind));
        }
        see("factor, " + when, mine::factor);
        see("isBalanced, " + when, mine::isBalanced);
        see("dugShare, " + when, mine::dugShare);
        see("meanFed, " + when, mine::meanFed);
    }

    /** How many samples and phases there are, and where the phases end. */
    private void limits(PitForge mine) {
        for (int price = 0; price < 100; price++) {
            int at = price;
            see("phase " + at, () -> mine.phase(at));
        }
        see("clearPhases", mine::clearPhases);
        see("sample", () -> mine.sample(59, 98));
        see("the grade behind it", () -> mine.grade(59));
    }

    private void future(PitForge mine) {
        for (int i = 0; i < 4; i++) {
            see("goOn", () -> mine.goOn(1));
            figures("week " + i, mine);
        }
        see("goOn 20", () -> mine.goOn(20));
        figures("at last", mine);
    }
}
