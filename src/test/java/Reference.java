import java.util.ArrayDeque;
import java.util.ArrayList;
import java.util.Arrays;
import java.util.LinkedHashMap;
import java.util.List;
import java.util.Map;
import java.util.NoSuchElementException;
import java.util.Set;
import java.util.TreeSet;

/**
 * The document once more, written another way: best pits by a greatest flow, nothing remembered between two calls.
 * RandomRunsTest holds PitForge against it.
 */
final class Reference {
    private record Sample(int block, int grade) { }

    private record Dug(int week, char place, int real, int modelled) { }

    private final char[] rocks = new char[60];
    private final List<Sample> samples = new ArrayList<>();
    private final Integer[] truths = new Integer[60];
    private final Map<Integer, Dug> dug = new LinkedHashMap<>();
    private final List<Integer> prices = new ArrayList<>();
    private final Map<Character, Integer> numbers = new LinkedHashMap<>();
    private final ArrayDeque<Integer> later = new ArrayDeque<>();
    private final List<Integer> fedEver = new ArrayList<>();
    private int heapBlocks;
    private int heapSum;
    private boolean mixes;
    private int week;
    private int water;
    private long money;
    private long metal;
    private Double lastMean;
    private int recovery;

    Reference() {
        Arrays.fill(rocks, 's');
        numbers.put('s', 3);
        numbers.put('p', 2);
        numbers.put('c', 20);
        numbers.put('l', 10);
        numbers.put('m', 10);
        numbers.put('r', 10);
        numbers.put('w', 5);
    }

    private static void block(int block) {
        if (block < 0 || block > 59) {
            throw new IndexOutOfBoundsException();
        }
    }

    private static void hundred(int number) {
        if (number < 0 || number > 99) {
            throw new IllegalArgumentException();
        }
    }

    private void undug(int block) {
        if (dug.containsKey(block)) {
            throw new UnsupportedOperationException();
        }
    }

    char rock(int block, char rock) {
        block(block);
        if ("sh".indexOf(rock) < 0) {
            throw new IllegalArgumentException();
        }
        undug(block);
        char before = rocks[block];
        rocks[block] = rock;
        return before;
    }

    int sample(int block, int grade) {
        block(block);
        hundred(grade);
        if (samples.size() == 40) {
            throw new IllegalStateException();
        }
        samples.add(new Sample(block, grade));
        return samples.size();
    }

    int tellTruth(int block, int grade) {
        block(block);
        hundred(grade);
        undug(block);
        Integer before = truths[block];
        truths[block] = grade;
        return before == null ? -1 : before;
    }

    int grade(int block) {
        block(block);
        double[] own = samples.stream().filter(s -> s.block == block).mapToDouble(s -> s.grade).toArray();
        if (own.length > 0) {
            double sum = 0;
            for (double g : own) {
                sum += g;
            }
            return (int) Math.rint(sum / own.length);
        }
        double above = 0;
        double below = 0;
        for (Sample s : samples) {
            int dx = Math.abs(s.block % 10 - block % 10);
            int dy = Math.abs(s.block / 10 - block / 10);
            double weight = 1.0 / (dx * dx + 4 * dy * dy);
            above += s.grade * weight;
            below += weight;
        }
        return samples.isEmpty() ? 0 : (int) Math.rint(above / below);
    }

    private static int digging(int block) {
        return 30 + block / 10 * 10;
    }

    int worth(int block, int price) {
        block(block);
        hundred(price);
        return Math.max(0, grade(block) * price - 200) - digging(block);
    }

    private List<Integer> ahead(int block) {
        List<Integer> all = new ArrayList<>();
        int level = block / 10;
        int column = block % 10;
        for (int c = column - 1; c <= column + 1; c++) {
            if (level > 0 && c >= 0 && c <= 9 && (c == column || rocks[block] == 's')) {
                all.add((level - 1) * 10 + c);
            }
        }
        return all;
    }

    boolean isFree(int block) {
        block(block);
        return !dug.containsKey(block) && dug.keySet().containsAll(ahead(block));
    }

    boolean isDug(int block) {
        block(block);
        return dug.containsKey(block);
    }

    /** The least closed set of the greatest worth: what a spring still reaches behind a greatest flow. */
    private Set<Integer> bestPit(int price) {
        long[][] room = new long[62][62];
        for (int b = 0; b < 60; b++) {
            if (dug.containsKey(b)) {
                continue;
            }
            int worth = worth(b, price);
            room[60][b] = Math.max(0, worth);
            room[b][61] = Math.max(0, -worth);
            for (int a : ahead(b)) {
                if (!dug.containsKey(a)) {
                    room[b][a] = 1L << 40;
                }
            }
        }
        int[] from = reach(room);
        while (from[61] >= 0) {
            long least = Long.MAX_VALUE;
            for (int v = 61; v != 60; v = from[v]) {
                least = Math.min(least, room[from[v]][v]);
            }
            for (int v = 61; v != 60; v = from[v]) {
                room[from[v]][v] -= least;
                room[v][from[v]] += least;
            }
            from = reach(room);
        }
        Set<Integer> pit = new TreeSet<>();
        for (int b = 0; b < 60; b++) {
            if (from[b] >= 0) {
                pit.add(b);
            }
        }
        return pit;
    }

    private static int[] reach(long[][] room) {
        int[] from = new int[62];
        Arrays.fill(from, -1);
        from[60] = 60;
        ArrayDeque<Integer> open = new ArrayDeque<>(List.of(60));
        while (!open.isEmpty()) {
            int u = open.remove();
            for (int v = 0; v < 62; v++) {
                if (from[v] < 0 && room[u][v] > 0) {
                    from[v] = u;
                    open.add(v);
                }
            }
        }
        return from;
    }

    long pitWorth(int price) {
        hundred(price);
        return bestPit(price).stream().mapToLong(b -> worth(b, price)).sum();
    }

    int pitSize(int price) {
        hundred(price);
        return bestPit(price).size();
    }

    boolean isInPit(int price, int block) {
        hundred(price);
        block(block);
        return bestPit(price).contains(block);
    }

    long worthWith(int price, int block) {
        hundred(price);
        block(block);
        undug(block);
        Set<Integer> pit = new TreeSet<>();
        gather(block, pit);
        return pit.stream().mapToLong(b -> worth(b, price)).sum();
    }

    private void gather(int block, Set<Integer> pit) {
        if (!dug.containsKey(block) && pit.add(block)) {
            for (int a : ahead(block)) {
                gather(a, pit);
            }
        }
    }

    int phase(int price) {
        hundred(price);
        if (!prices.isEmpty() && price <= prices.get(prices.size() - 1)) {
            throw new IllegalArgumentException();
        }
        if (prices.size() == 4) {
            throw new IllegalStateException();
        }
        prices.add(price);
        return prices.size();
    }

    int clearPhases() {
        int before = prices.size();
        prices.clear();
        return before;
    }

    private int[] phases() {
        int[] of = new int[60];
        Arrays.fill(of, -1);
        for (int i = prices.size() - 1; i >= 0; i--) {
            for (int b : bestPit(prices.get(i))) {
                of[b] = i;
            }
        }
        return of;
    }

    int phaseOf(int block) {
        block(block);
        return phases()[block];
    }

    int set(char kind, int number) {
        if (!numbers.containsKey(kind) || number < 0 || number > ("sp".indexOf(kind) >= 0 ? 10 : 99)) {
            throw new IllegalArgumentException();
        }
        return numbers.put(kind, number);
    }

    boolean mix(boolean mixes) {
        boolean before = this.mixes;
        this.mixes = mixes;
        return before;
    }

    int goOn(int weeks) {
        if (weeks < 1 || weeks > 20) {
            throw new IllegalArgumentException();
        }
        int before = dug.size();
        for (int i = 0; i < weeks; i++) {
            oneWeek();
        }
        return dug.size() - before;
    }

    private void oneWeek() {
        int[] phases = phases();
        int deepest = dug.keySet().stream().mapToInt(b -> b / 10).max().orElse(99);
        List<Integer> fed = new ArrayList<>();
        for (int i = 0; i < numbers.get('s'); i++) {
            int best = -1;
            for (int b = 59; b >= 0; b--) {
                boolean wet = water > 50 && b / 10 >= deepest && b / 10 > 0;
                if (isFree(b) && phases[b] >= 0 && !wet && (best < 0 || phases[b] <= phases[best])) {
                    best = b;
                }
            }
            if (best >= 0) {
                dig(best, fed);
            }
        }
        while (fed.size() < numbers.get('p') && stock() > 0) {
            fed.add(give());
        }
        mill(fed);
        water += numbers.get('r');
        int pumped = Math.min(water, numbers.get('w'));
        water -= pumped;
        money -= 5L * (int) Math.ceil(pumped / 10.0);
        week++;
    }

    private void dig(int block, List<Integer> fed) {
        int modelled = grade(block);
        int real = truths[block] == null ? modelled : truths[block];
        char place = 'd';
        if (real >= numbers.get('c') && fed.size() < numbers.get('p')) {
            place = 'p';
            fed.add(real);
        } else if (real >= numbers.get('l')) {
            place = 's';
            later.add(real);
        }
        dug.put(block, new Dug(week, place, real, modelled));
        money -= digging(block);
        if (truths[block] != null && samples.size() < 40) {
            samples.add(new Sample(block, real));
        }
    }

    private int give() {
        if (mixes) {
            for (int grade : later) {
                heapBlocks++;
                heapSum += grade;
            }
            later.clear();
        }
        if (heapBlocks == 0) {
            return later.remove();
        }
        int grade = heapSum / heapBlocks;
        heapSum -= grade;
        heapBlocks--;
        return grade;
    }

    private void mill(List<Integer> fed) {
        if (!fed.isEmpty()) {
            double mean = fed.stream().mapToInt(g -> g).sum() / (double) fed.size();
            recovery = lastMean == null ? 90 : (int) Math.rint(Math.max(50, 90 - Math.abs(mean - lastMean)));
            lastMean = mean;
        }
        long now = 0;
        for (int grade : fed) {
            now += 10 * grade * recovery / 100;
        }
        fedEver.addAll(fed);
        metal += now;
        money += now * numbers.get('m') / 10 - 200L * fed.size();
    }

    int week() {
        return week;
    }

    private Dug found(int block) {
        block(block);
        if (!dug.containsKey(block)) {
            throw new NoSuchElementException();
        }
        return dug.get(block);
    }

    char wentTo(int block) {
        return found(block).place;
    }

    int dugIn(int block) {
        return found(block).week;
    }

    int stock() {
        return heapBlocks + later.size();
    }

    int stockGrades() {
        return heapSum + later.stream().mapToInt(g -> g).sum();
    }

    int water() {
        return water;
    }

    int recovery() {
        if (lastMean == null) {
            throw new NoSuchElementException();
        }
        return recovery;
    }

    long metal() {
        return metal;
    }

    long money() {
        return money;
    }

    int tons(char kind) {
        return 10 * switch (kind) {
            case 'p' -> fedEver.size();
            case 's' -> stock();
            case 'd' -> (int) dug.values().stream().filter(d -> d.place == 'd').count();
            default -> throw new IllegalArgumentException();
        };
    }

    int factor() {
        int modelled = dug.values().stream().mapToInt(d -> d.modelled).sum();
        if (modelled == 0) {
            throw new ArithmeticException();
        }
        return 100 * dug.values().stream().mapToInt(d -> d.real).sum() / modelled;
    }

    boolean isBalanced() {
        return true;
    }

    float dugShare() {
        return (float) dug.size() / 60f;
    }

    double meanFed() {
        if (fedEver.isEmpty()) {
            throw new ArithmeticException();
        }
        return (double) fedEver.stream().mapToInt(g -> g).sum() / (double) fedEver.size();
    }
}
