import java.util.NoSuchElementException;

/** The planning of an open mine, by the promises of the document. */
public final class PitForge {

    private static final int COLUMNS = 10;
    private static final int LEVELS = 6;
    private static final int BLOCKS = 60;
    private static final int MOST_SAMPLES = 40;
    private static final int MOST_PHASES = 4;
    private static final int MOST_A_WEEK = 10;
    private static final int MOST_WEEKS = 20;
    private static final int HIGHEST = 99;
    private static final int MILLING = 200;
    private static final int PUMPING = 5;
    private static final int FLOOD = 50;
    private static final int TONS = 10;

    private final Ground ground;
    private final Ore ore;
    private final PitSearch search;
    private final Phases phases;
    private final Numbers numbers;
    private final Pile pile;
    private final Plant plant;
    private final Sump sump;
    private final Books books;

    public PitForge() {
        ground = new Ground();
        ore = new Ore();
        search = new PitSearch(ground, ore);
        phases = new Phases(ground, search);
        numbers = new Numbers();
        pile = new Pile();
        plant = new Plant();
        sump = new Sump();
        books = new Books();
    }

    // ---- blocks and model

    public char rock(int block, char rock) throws IndexOutOfBoundsException, IllegalArgumentException, UnsupportedOperationException {
        requireBlock(block);
        if (rock != 's' && rock != 'h') {
            throw new IllegalArgumentException("no such rock");
        }
        requireUndug(block);
        char before = ground.isHard(block) ? 'h' : 's';
        ground.harden(block, rock == 'h');
        phases.forget();
        return before;
    }

    public int sample(int block, int grade) throws IndexOutOfBoundsException, IllegalArgumentException, IllegalStateException {
        requireBlock(block);
        requireHundred(grade);
        if (ore.isFull()) {
            throw new IllegalStateException("no more samples");
        }
        ore.addSample(block, grade);
        phases.forget();
        return ore.samples;
    }

    public int tellTruth(int block, int grade) throws IndexOutOfBoundsException, IllegalArgumentException, UnsupportedOperationException {
        requireBlock(block);
        requireHundred(grade);
        requireUndug(block);
        int before = books.truthOf(block);
        books.noteTruth(block, grade);
        return before;
    }

    public int grade(int block) throws IndexOutOfBoundsException {
        requireBlock(block);
        return ore.estimate(block);
    }

    public int worth(int block, int price) throws IndexOutOfBoundsException, IllegalArgumentException {
        requireBlock(block);
        requireHundred(price);
        return ore.valueOf(block, price);
    }

    public boolean isFree(int block) throws IndexOutOfBoundsException {
        requireBlock(block);
        return ground.liesFree(block);
    }

    public boolean isDug(int block) throws IndexOutOfBoundsException {
        requireBlock(block);
        return ground.wasDug(block);
    }

    // ---- pits and phases

    public long pitWorth(int price) throws IllegalArgumentException {
        requireHundred(price);
        search.find(price);
        return search.foundWorth;
    }

    public int pitSize(int price) throws IllegalArgumentException {
        requireHundred(price);
        search.find(price);
        return search.foundSize;
    }

    public boolean isInPit(int price, int block) throws IllegalArgumentException, IndexOutOfBoundsException {
        requireHundred(price);
        requireBlock(block);
        search.find(price);
        return search.covers(block);
    }

    public long worthWith(int price, int block) throws IllegalArgumentException, IndexOutOfBoundsException, UnsupportedOperationException {
        requireHundred(price);
        requireBlock(block);
        requireUndug(block);
        return search.leastPitValue(price, block);
    }

    public int phase(int price) throws IllegalArgumentException, IllegalStateException {
        requireHundred(price);
        if (price <= phases.lastPrice()) {
            throw new IllegalArgumentException("not greater than the price before");
        }
        if (phases.isFull()) {
            throw new IllegalStateException("no more phases");
        }
        phases.addPrice(price);
        return phases.told;
    }

    public int clearPhases() {
        int before = phases.told;
        phases.dropAll();
        return before;
    }

    public int phaseOf(int block) throws IndexOutOfBoundsException {
        requireBlock(block);
        phases.refresh();
        return phases.numberFor(block);
    }

    // ---- weeks

    public int set(char kind, int number) throws IllegalArgumentException {
        int most = numbers.mostFor(kind);
        if (most < 0) {
            throw new IllegalArgumentException("no such kind");
        }
        if (number < 0 || number > most) {
            throw new IllegalArgumentException("the number is out of range");
        }
        int before = numbers.current(kind);
        numbers.change(kind, number);
        return before;
    }

    public boolean mix(boolean mixes) {
        boolean before = pile.mixing;
        pile.mixing = mixes;
        return before;
    }

    public int goOn(int weeks) throws IllegalArgumentException {
        if (weeks < 1 || weeks > MOST_WEEKS) {
            throw new IllegalArgumentException("the weeks are out of range");
        }
        int before = ground.dugCount;
        for (int i = 0; i < weeks; i++) {
            passWeek();
        }
        return ground.dugCount - before;
    }

    public int week() {
        return books.weeksPassed;
    }

    public char wentTo(int block) throws IndexOutOfBoundsException, NoSuchElementException {
        requireBlock(block);
        requireDug(block);
        return books.placeOf(block);
    }

    public int dugIn(int block) throws IndexOutOfBoundsException, NoSuchElementException {
        requireBlock(block);
        requireDug(block);
        return ground.weekOf(block);
    }

    public int stock() {
        return pile.count();
    }

    public int stockGrades() {
        return pile.sum();
    }

    public int water() {
        return sump.units;
    }

    public int recovery() throws NoSuchElementException {
        if (!plant.everRan) {
            throw new NoSuchElementException("the plant had nothing yet");
        }
        return plant.lastRecovery;
    }

    public long metal() {
        return plant.metalMade;
    }

    public long money() {
        return books.balance;
    }

    public int tons(char kind) throws IllegalArgumentException {
        if (kind == 'p') {
            return TONS * plant.allFed;
        }
        if (kind == 's') {
            return TONS * pile.count();
        }
        if (kind == 'd') {
            return TONS * books.dumped;
        }
        throw new IllegalArgumentException("no such kind");
    }

    public int factor() throws ArithmeticException {
        if (books.modelSum <= 0) {
            throw new ArithmeticException("the model had nothing");
        }
        return 100 * books.trueSum / books.modelSum;
    }

    public boolean isBalanced() {
        int kept = TONS * (plant.allFed + pile.count() + books.dumped);
        return kept == TONS * ground.dugCount && ground.wasDugInOrder();
    }

    // ---- figures

    public float dugShare() {
        return (float) ground.dugCount / (float) BLOCKS;
    }

    public double meanFed() throws ArithmeticException {
        if (plant.allFed <= 0) {
            throw new ArithmeticException("the plant had nothing yet");
        }
        return (double) plant.allGrades / (double) plant.allFed;
    }

    // ---- a week

    private void passWeek() {
        phases.refresh();
        plant.openWeek();
        int dry = dryLevels();
        int shovel = numbers.current('s');
        for (int i = 0; i < shovel; i++) {
            int block = nextBlock(dry);
            if (block < 0) {
                break;
            }
            digOut(block);
        }
        feedFromPile();
        books.balance += plant.closeWeek() * numbers.current('m') / 10 - (long) MILLING * plant.fedNow;
        int pumped = sump.rainAndPump(numbers.current('r'), numbers.current('w'));
        books.balance -= PUMPING * ((pumped + 9) / 10);
        books.weeksPassed++;
    }

    /** How many levels, from the top, are not under water. */
    private int dryLevels() {
        int deepest = ground.deepestDug();
        if (deepest < 0 || sump.units <= FLOOD) {
            return LEVELS;
        }
        return Math.max(deepest, 1);
    }

    /** The block that is dug next, or -1; the numbers of blocks rise by levels and then by columns, as the choice does. */
    private int nextBlock(int dry) {
        int found = -1;
        int lowest = MOST_PHASES;
        for (int block = 0; block < dry * COLUMNS; block++) {
            int number = phases.numberFor(block);
            if (number >= 0 && number < lowest && ground.liesFree(block)) {
                found = block;
                lowest = number;
            }
        }
        return found;
    }

    private void digOut(int block) {
        int modelled = ore.estimate(block);
        int told = books.truthOf(block);
        int real = told >= 0 ? told : modelled;
        ground.markDug(block, books.weeksPassed);
        books.noteGrades(real, modelled);
        books.balance -= diggingCost(block);
        haul(block, real);
        if (told >= 0 && !ore.isFull()) {
            ore.addSample(block, told);
        }
        // within the week the phases stand as they began; only the next one is to see what changed
        phases.forget();
    }

    private void haul(int block, int real) {
        if (real >= numbers.current('c') && plant.fedNow < numbers.current('p')) {
            plant.feed(real);
            books.notePlace(block, 'p');
        } else if (real >= numbers.current('l')) {
            pile.put(real);
            books.notePlace(block, 's');
        } else {
            books.dumped++;
            books.notePlace(block, 'd');
        }
    }

    private void feedFromPile() {
        int room = numbers.current('p');
        for (int i = plant.fedNow; i < room && pile.count() > 0; i++) {
            plant.feed(pile.give());
        }
    }

    // ---- what the calls require

    private static void requireBlock(int block) {
        if (!isBlock(block)) {
            throw new IndexOutOfBoundsException("no such block");
        }
    }

    private static void requireHundred(int number) {
        if (number < 0 || number > HIGHEST) {
            throw new IllegalArgumentException("out of range");
        }
    }

    private void requireUndug(int block) {
        if (ground.wasDug(block)) {
            throw new UnsupportedOperationException("the block has been dug");
        }
    }

    private void requireDug(int block) {
        if (!ground.wasDug(block)) {
            throw new NoSuchElementException("the block has not been dug");
        }
    }

    // ---- what all parts share

    private static boolean isBlock(int block) {
        return block >= 0 && block < BLOCKS;
    }

    private static int diggingCost(int block) {
        return 30 + 10 * (block / COLUMNS);
    }

    /** The nearest whole number, of two as near the even one; the value is 0 or more and small. */
    private static int toNearest(double value) {
        int whole = (int) value;
        double rest = value - (double) whole;
        boolean up = rest > 0.5 || (rest == 0.5 && whole % 2 != 0);
        return up ? whole + 1 : whole;
    }

    /** The rock, and what has been dug of it: in each column always the topmost blocks without a gap. */
    private static final class Ground {
        private final boolean[] hard = new boolean[BLOCKS];
        private final int[] turn = new int[BLOCKS];
        private final int[] weekDug = new int[BLOCKS];
        private int dugCount;

        /** The turn of a block that has not been dug is 0, that of the first dug one 1. */
        boolean wasDug(int block) {
            return isBlock(block) && turn[block] > 0;
        }

        boolean isHard(int block) {
            return isBlock(block) && hard[block];
        }

        void harden(int block, boolean isHard) {
            if (isBlock(block)) {
                hard[block] = isHard;
            }
        }

        int weekOf(int block) {
            return isBlock(block) ? weekDug[block] : -1;
        }

        void markDug(int block, int week) {
            if (isBlock(block)) {
                dugCount++;
                turn[block] = dugCount;
                weekDug[block] = week;
            }
        }

        /** The block above, moved by a side of -1, 0 or 1 column, if it must be dug ahead of this one; otherwise -1. */
        int neededAbove(int block, int side) {
            int column = block % COLUMNS + side;
            if (block < COLUMNS || column < 0 || column >= COLUMNS || (side != 0 && isHard(block))) {
                return -1;
            }
            return block - COLUMNS + side;
        }

        boolean liesFree(int block) {
            if (wasDug(block)) {
                return false;
            }
            for (int side = -1; side <= 1; side++) {
                int above = neededAbove(block, side);
                if (above >= 0 && !wasDug(above)) {
                    return false;
                }
            }
            return true;
        }

        int dugInColumn(int column) {
            int level = 0;
            while (level < LEVELS && wasDug(level * COLUMNS + column)) {
                level++;
            }
            return level;
        }

        /** The deepest level at which a block has been dug, or -1. */
        int deepestDug() {
            int deepest = -1;
            for (int column = 0; column < COLUMNS; column++) {
                deepest = Math.max(deepest, dugInColumn(column) - 1);
            }
            return deepest;
        }

        boolean wasDugInOrder() {
            for (int block = 0; block < BLOCKS; block++) {
                for (int side = -1; side <= 1; side++) {
                    if (wasDug(block) && !wasAhead(neededAbove(block, side), block)) {
                        return false;
                    }
                }
            }
            return true;
        }

        private boolean wasAhead(int above, int block) {
            if (!isBlock(above) || !isBlock(block)) {
                return true;
            }
            return wasDug(above) && turn[above] < turn[block] && weekDug[above] <= weekDug[block];
        }
    }

    /** The samples, and the model of the blocks by them. */
    private static final class Ore {
        private final int[] sampleBlock = new int[MOST_SAMPLES];
        private final int[] sampleGrade = new int[MOST_SAMPLES];
        // reckoned anew at each sample, for searching pits asks for each grade many times between two of them
        private final int[] modelled = new int[BLOCKS];
        private int samples;

        boolean isFull() {
            return samples >= MOST_SAMPLES;
        }

        void addSample(int block, int grade) {
            if (isFull()) {
                return;
            }
            sampleBlock[samples] = block;
            sampleGrade[samples] = grade;
            samples++;
            for (int i = 0; i < BLOCKS; i++) {
                modelled[i] = toNearest(meanFor(i));
            }
        }

        int estimate(int block) {
            return isBlock(block) ? modelled[block] : 0;
        }

        int valueOf(int block, int price) {
            int milled = estimate(block) * price - MILLING;
            return Math.max(milled, 0) - diggingCost(block);
        }

        private double meanFor(int block) {
            double sum = 0.0;
            int own = 0;
            for (int i = 0; i < samples && i < MOST_SAMPLES; i++) {
                if (sampleBlock[i] == block) {
                    sum += (double) sampleGrade[i];
                    own++;
                }
            }
            return own > 0 ? sum / (double) own : meanByDistance(block);
        }

        private double meanByDistance(int block) {
            double sum = 0.0;
            double weights = 0.0;
            for (int i = 0; i < samples && i < MOST_SAMPLES; i++) {
                int square = squareBetween(block, sampleBlock[i]);
                if (square > 0) {
                    double weight = 1.0 / (double) square;
                    sum += weight * (double) sampleGrade[i];
                    weights += weight;
                }
            }
            return weights > 0.0 ? sum / weights : 0.0;
        }

        private static int squareBetween(int one, int other) {
            int columns = one % COLUMNS - other % COLUMNS;
            int levels = one / COLUMNS - other / COLUMNS;
            return columns * columns + 4 * levels * levels;
        }
    }

    /**
     * The best pit at a price. A pit takes each column down to some depth, for a block needs the one above it whatever
     * its rock is, and the depth of a column binds only the columns beside it: so the best depths are found from the
     * left to the right.
     */
    private static final class PitSearch {
        private static final int DEPTHS = LEVELS + 1;
        // more than the blocks of any pit: so worth goes ahead of the number of blocks
        private static final int SCALE = 64;
        private static final int NONE = Integer.MIN_VALUE;

        private final Ground ground;
        private final Ore ore;
        private final int[] top = new int[COLUMNS];
        /** How deep the columns beside must be dug if this one is dug to a depth. */
        private final int[][] asks = new int[COLUMNS][DEPTHS];
        /** The best score of all columns up to this one, if this one is dug to a depth, or NONE. */
        private final int[][] score = new int[COLUMNS][DEPTHS];
        /** The depth of the column to the left in that best score. */
        private final int[][] left = new int[COLUMNS][DEPTHS];
        private final int[] depth = new int[COLUMNS];
        private final boolean[] mustGo = new boolean[BLOCKS];
        private long foundWorth;
        private int foundSize;

        PitSearch(Ground ground, Ore ore) {
            this.ground = ground;
            this.ore = ore;
        }

        void find(int price) {
            measureColumns(price);
            joinColumns();
            int last = COLUMNS - 1;
            int best = bestDepth(last, 0, LEVELS);
            int total = isDepth(best) ? score[last][best] : 0;
            readDepths(best);
            foundWorth = ((long) total + foundSize) / SCALE;
        }

        boolean covers(int block) {
            if (!isBlock(block)) {
                return false;
            }
            int column = block % COLUMNS;
            int level = block / COLUMNS;
            return level >= top[column] && level < depth[column];
        }

        private static boolean isDepth(int deep) {
            return deep >= 0 && deep <= LEVELS;
        }

        /** Fills each column's row of scores with what its own blocks give. */
        private void measureColumns(int price) {
            for (int column = 0; column < COLUMNS; column++) {
                int first = ground.dugInColumn(column);
                int own = 0;
                int ask = 0;
                top[column] = first;
                for (int deep = 0; deep <= LEVELS; deep++) {
                    if (deep > first) {
                        int block = (deep - 1) * COLUMNS + column;
                        own += SCALE * ore.valueOf(block, price) - 1;
                        ask = ground.isHard(block) ? ask : deep - 1;
                    }
                    asks[column][deep] = ask;
                    score[column][deep] = deep < first ? NONE : own;
                    left[column][deep] = -1;
                }
            }
        }

        /** Adds to each column's scores the best that the columns to the left can give beside it. */
        private void joinColumns() {
            for (int column = 1; column < COLUMNS; column++) {
                for (int deep = 0; deep <= LEVELS; deep++) {
                    int beside = bestDepth(column - 1, asks[column][deep], deep);
                    boolean joins = score[column][deep] != NONE && isDepth(beside);
                    left[column][deep] = beside;
                    score[column][deep] = joins ? score[column][deep] + score[column - 1][beside] : NONE;
                }
            }
        }

        /** The depth, from a least one on, that has a column's best score and asks no more than a most; or -1. */
        private int bestDepth(int column, int least, int most) {
            if (column < 0 || column >= COLUMNS) {
                return -1;
            }
            int found = -1;
            for (int deep = Math.max(least, 0); deep <= LEVELS; deep++) {
                boolean fits = score[column][deep] != NONE && asks[column][deep] <= most;
                if (fits && (found < 0 || score[column][deep] > score[column][found])) {
                    found = deep;
                }
            }
            return found;
        }

        private void readDepths(int last) {
            int deep = last;
            foundSize = 0;
            for (int column = COLUMNS - 1; column >= 0; column--) {
                depth[column] = Math.max(deep, top[column]);
                foundSize += depth[column] - top[column];
                deep = isDepth(deep) ? left[column][deep] : -1;
            }
        }

        long leastPitValue(int price, int block) {
            long sum = 0;
            for (int i = 0; i < BLOCKS; i++) {
                mustGo[i] = i == block;
            }
            // what a block needs has a lower number: one pass from the highest down marks all
            for (int i = BLOCKS - 1; i >= 0; i--) {
                if (mustGo[i]) {
                    sum += ore.valueOf(i, price);
                    markNeeded(i);
                }
            }
            return sum;
        }

        private void markNeeded(int block) {
            for (int side = -1; side <= 1; side++) {
                int above = ground.neededAbove(block, side);
                if (isBlock(above) && !ground.wasDug(above)) {
                    mustGo[above] = true;
                }
            }
        }
    }

    /** The phases by rising prices, and the phase of each block until something changes. */
    private static final class Phases {
        private final Ground ground;
        private final PitSearch search;
        private final int[] prices = new int[MOST_PHASES];
        private final int[] number = new int[BLOCKS];
        private int told;
        private boolean stale = true;

        Phases(Ground ground, PitSearch search) {
            this.ground = ground;
            this.search = search;
        }

        boolean isFull() {
            return told >= MOST_PHASES;
        }

        int lastPrice() {
            return told > 0 && told <= MOST_PHASES ? prices[told - 1] : -1;
        }

        void addPrice(int price) {
            if (!isFull()) {
                prices[told] = price;
                told++;
                stale = true;
            }
        }

        void dropAll() {
            told = 0;
            stale = true;
        }

        void forget() {
            stale = true;
        }

        void refresh() {
            if (!stale) {
                return;
            }
            for (int block = 0; block < BLOCKS; block++) {
                number[block] = -1;
            }
            for (int i = 0; i < told && i < MOST_PHASES; i++) {
                search.find(prices[i]);
                numberFound(i);
            }
            stale = false;
        }

        int numberFor(int block) {
            return isBlock(block) && !ground.wasDug(block) ? number[block] : -1;
        }

        private void numberFound(int phase) {
            for (int block = 0; block < BLOCKS; block++) {
                if (number[block] < 0 && search.covers(block)) {
                    number[block] = phase;
                }
            }
        }
    }

    /** The numbers that the mine is run by. */
    private static final class Numbers {
        private static final char[] KINDS = {'s', 'p', 'c', 'l', 'm', 'r', 'w'};
        private static final int[] MOST = {MOST_A_WEEK, MOST_A_WEEK, HIGHEST, HIGHEST, HIGHEST, HIGHEST, HIGHEST};

        private final int[] values = {3, 2, 20, 10, 10, 10, 5};

        /** The greatest number of a kind, or -1 if there is no such kind. */
        int mostFor(char kind) {
            int at = indexOf(kind);
            return at >= 0 && at < MOST.length ? MOST[at] : -1;
        }

        int current(char kind) {
            int at = indexOf(kind);
            return at >= 0 && at < values.length ? values[at] : 0;
        }

        void change(char kind, int to) {
            int at = indexOf(kind);
            if (at >= 0 && at < values.length) {
                values[at] = to;
            }
        }

        private static int indexOf(char kind) {
            for (int i = 0; i < KINDS.length; i++) {
                if (KINDS[i] == kind) {
                    return i;
                }
            }
            return -1;
        }
    }

    /** The stockpile: a heap without grades of its own, and behind it the layers that came later. */
    private static final class Pile {
        // each block comes here once at the most, so the row never has to turn round
        private final int[] layers = new int[BLOCKS];
        private int first;
        private int end;
        private int layerSum;
        private int heapCount;
        private int heapSum;
        private boolean mixing;

        int count() {
            return heapCount + end - first;
        }

        int sum() {
            return heapSum + layerSum;
        }

        void put(int grade) {
            if (end >= 0 && end < BLOCKS) {
                layers[end] = grade;
                layerSum += grade;
                end++;
            }
        }

        /** Takes one block out and answers its grade. */
        int give() {
            if (mixing) {
                heapUp();
            }
            return heapCount > 0 ? giveOfHeap() : giveLayer();
        }

        private void heapUp() {
            heapCount = count();
            heapSum = sum();
            first = end;
            layerSum = 0;
        }

        private int giveOfHeap() {
            int grade = heapCount > 0 ? heapSum / heapCount : 0;
            heapCount--;
            heapSum -= grade;
            return grade;
        }

        private int giveLayer() {
            if (first < 0 || first >= end || first >= BLOCKS) {
                return 0;
            }
            int grade = layers[first];
            layerSum -= grade;
            first++;
            return grade;
        }
    }

    /** The plant: what it had this week, and in all weeks. */
    private static final class Plant {
        private static final int BEST_RECOVERY = 90;
        private static final int LEAST_RECOVERY = 50;

        private final int[] grades = new int[MOST_A_WEEK];
        private int fedNow;
        private int gradesNow;
        private int allFed;
        private int allGrades;
        private boolean everRan;
        private double lastMean;
        private int lastRecovery;
        private long metalMade;

        void openWeek() {
            fedNow = 0;
            gradesNow = 0;
        }

        void feed(int grade) {
            if (fedNow >= 0 && fedNow < MOST_A_WEEK) {
                grades[fedNow] = grade;
                fedNow++;
                gradesNow += grade;
                allFed++;
                allGrades += grade;
            }
        }

        /** Makes metal of what the plant had this week, and answers how much. */
        long closeWeek() {
            if (fedNow <= 0) {
                return 0L;
            }
            double mean = (double) gradesNow / (double) fedNow;
            lastRecovery = everRan ? recoveryAt(mean) : BEST_RECOVERY;
            lastMean = mean;
            everRan = true;
            long won = 0L;
            for (int i = 0; i < fedNow && i < MOST_A_WEEK; i++) {
                won += TONS * grades[i] * lastRecovery / 100;
            }
            metalMade += won;
            return won;
        }

        private int recoveryAt(double mean) {
            double change = mean < lastMean ? lastMean - mean : mean - lastMean;
            double least = (double) LEAST_RECOVERY;
            double left = (double) BEST_RECOVERY - change;
            return toNearest(left < least ? least : left);
        }
    }

    /** The water in the mine. */
    private static final class Sump {
        private int units;

        /** Answers how many units were pumped. */
        int rainAndPump(int rain, int pump) {
            units += rain;
            int pumped = Math.min(pump, units);
            units -= pumped;
            return pumped;
        }
    }

    /** What was told as true, and what is written down week by week. */
    private static final class Books {
        // a truth is held with 1 added, so that 0 means that none was told
        private final int[] truth = new int[BLOCKS];
        private final char[] place = new char[BLOCKS];
        private int dumped;
        private int trueSum;
        private int modelSum;
        private int weeksPassed;
        private long balance;

        /** The true grade that was told, or -1. */
        int truthOf(int block) {
            return isBlock(block) ? truth[block] - 1 : -1;
        }

        void noteTruth(int block, int grade) {
            if (isBlock(block)) {
                truth[block] = grade + 1;
            }
        }

        char placeOf(int block) {
            return isBlock(block) ? place[block] : ' ';
        }

        void notePlace(int block, char kind) {
            if (isBlock(block)) {
                place[block] = kind;
            }
        }

        void noteGrades(int real, int modelled) {
            trueSum += real;
            modelSum += modelled;
        }
    }
}
