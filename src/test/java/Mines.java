import java.util.Arrays;

/** Mines that several tests begin with. */
final class Mines {
    private Mines() { }

    /** A mine with all of its 40 samples told, so that no blast adds one: each block has the grade 99. */
    static PitForge sampledOut() {
        PitForge mine = new PitForge();
        for (int i = 0; i < 40; i++) {
            mine.sample(i, 99);
        }
        return mine;
    }

    /** The same with one phase in which all blocks are, and these true grades of the blocks 0, 1, 2 and so on. */
    static PitForge withTruths(int... grades) {
        PitForge mine = sampledOut();
        mine.phase(50);
        for (int i = 0; i < grades.length; i++) {
            mine.tellTruth(i, grades[i]);
        }
        return mine;
    }

    /** A mine in which a block has a grade and those near to it, and all others, have little. */
    static PitForge withLens(int block, int grade) {
        PitForge mine = new PitForge();
        mine.sample(block, grade);
        for (int level = 0; level < 6; level++) {
            for (int column = 0; column < 10; column++) {
                int levels = Math.abs(level - block / 10);
                int columns = Math.abs(column - block % 10);
                if (levels <= 2 && columns <= 3 && levels + columns > 0) {
                    mine.sample(10 * level + column, 0);
                }
            }
        }
        return mine;
    }

    /** A mine in which just these blocks of the level 0 have been dug; its phases are cleared. */
    static PitForge dugAtTop(int... columns) {
        PitForge mine = new PitForge();
        for (int block = 0; block < 30; block++) {
            int at = block;
            mine.sample(block, Arrays.stream(columns).anyMatch(c -> c == at) ? 99 : 0);
        }
        mine.phase(3);
        mine.set('s', 10);
        mine.goOn(1);
        mine.clearPhases();
        return mine;
    }

    /** A mine in the midst of its work: 40 samples, four phases, a heap with layers behind it, water, some blocks dug. */
    static PitForge busy() {
        PitForge mine = new PitForge();
        for (int i = 0; i < 37; i++) {
            mine.sample(7 * i % 60, 40 + 31 * i % 60);
        }
        mine.rock(12, 'h');
        mine.rock(25, 'h');
        for (int i = 0; i < 16; i++) {
            mine.tellTruth(i, 13 * (i + 3) % 100);
        }
        for (int price = 4; price <= 7; price++) {
            mine.phase(price);
        }
        mine.set('s', 4);
        mine.set('p', 1);
        mine.mix(true);
        mine.goOn(2);
        mine.mix(false);
        mine.goOn(1);
        return mine;
    }
}
