/**
 * Each sentence of the document that names a boundary case has a test of its own here, at the boundary and on both
 * sides of it where it has two. What goes wrong is printed behind the sentence that it breaks.
 */
public final class BoundariesTest {
    private static final String ARGUMENT = "IllegalArgumentException";
    private static final String STATE = "IllegalStateException";
    private static final String INDEX = "IndexOutOfBoundsException";
    private static final int NONE = LayerBudgets.NONE;
    private static final int LEAST = Integer.MIN_VALUE;
    private static final int MOST = Integer.MAX_VALUE;
    private static final long MOST_GAIN = 274877906944L;

    private static String sentence = "";
    private static int wrong = 0;

    private interface Call {
        long answer();
    }

    private interface Maker {
        LayerBudgets make();
    }

    private interface CallOn {
        long answer(LayerBudgets x);
    }

    private static void due(String what, Call call, long want) {
        dueText(what, answered(call), Long.toString(want));
    }

    private static void dueThrow(String what, Call call, String want) {
        dueText(what, answered(call), want);
    }

    private static void dueText(String what, String got, String want) {
        if (!got.equals(want)) {
            wrong++;
            System.out.println("\"" + sentence + "\": " + what + " answered " + got + ", due is " + want);
        }
    }

    private static String answered(Call call) {
        try {
            return Long.toString(call.answer());
        } catch (RuntimeException e) {
            return thrown(e);
        }
    }

    /** What the program does not throw itself, but the machine or the library in it, is never due. */
    private static String thrown(RuntimeException e) {
        String by = e.getStackTrace()[0].getClassName();
        String name = e.getClass().getSimpleName();
        return by.equals("LayerBudgets") ? name : name + " of " + by;
    }

    /** One block for each row; a row holds bytes and gain of each pass in turn. */
    private static LayerBudgets with(long[]... rows) {
        LayerBudgets x = new LayerBudgets();
        for (long[] row : rows) {
            int block = x.block();
            for (int i = 0; i < row.length; i += 2) {
                x.pass(block, (int) row[i], row[i + 1]);
            }
        }
        return x;
    }

    private static long[] passes(long... bytesAndGains) {
        return bytesAndGains;
    }

    private static long[] step(long end, long bytes, long gain) {
        return new long[] {end, bytes, gain};
    }

    private static long[] threshold(long gain, long bytes) {
        return new long[] {gain, bytes};
    }

    private static long[] noThreshold() {
        return new long[] {NONE, NONE};
    }

    private static void dueSteps(String what, LayerBudgets x, int block, long[]... steps) {
        due(what + ": steps", () -> x.step(block, NONE, 0), steps.length);
        for (int s = 0; s < steps.length; s++) {
            int i = s;
            due(what + ": end of step " + s, () -> x.step(block, i, 0), steps[s][0]);
            due(what + ": bytes of step " + s, () -> x.step(block, i, 1), steps[s][1]);
            due(what + ": gain of step " + s, () -> x.gain(block, i), steps[s][2]);
        }
    }

    private static void dueLayer(String what, LayerBudgets x, int layer, long total, long[] threshold, long... cuts) {
        due(what + ": total", () -> x.total(layer), total);
        due(what + ": threshold's gain", () -> x.threshold(layer, 0), threshold[0]);
        due(what + ": threshold's bytes", () -> x.threshold(layer, 1), threshold[1]);
        for (int b = 0; b < cuts.length; b++) {
            int block = b;
            due(what + ": cut of block " + b, () -> x.cut(layer, block), cuts[b]);
        }
    }

    /** A budget in a new object, and all that comes of it. */
    private static void dueBudget(Maker maker, int budget, long total, long[] threshold, long... cuts) {
        LayerBudgets x = maker.make();
        due("layer(" + budget + ")", () -> x.layer(budget), total);
        dueLayer("layer(" + budget + ")", x, 0, total, threshold, cuts);
    }

    private static void addPasses(LayerBudgets x, int block, int count, int bytes, long gain) {
        for (int i = 0; i < count; i++) {
            x.pass(block, bytes, gain);
        }
    }

    private static void addLayers(LayerBudgets x, int count, int budget) {
        for (int i = 0; i < count; i++) {
            x.layer(budget);
        }
    }

    private static void addBlocks(LayerBudgets x, int count) {
        for (int b = 0; b < count; b++) {
            x.block();
        }
    }

    private static LayerBudgets withBlocks(int count) {
        LayerBudgets x = new LayerBudgets();
        addBlocks(x, count);
        return x;
    }

    /** Blocks of 120 passes, the last one of the passes that are left, and one block without passes behind them. */
    private static void addBlocksWithPasses(LayerBudgets x, int count) {
        for (int left = count; left > 0; left -= 120) {
            addPasses(x, x.block(), Math.min(left, 120), 1, 1);
        }
        x.block();
    }

    private static LayerBudgets withPasses(int count) {
        LayerBudgets x = new LayerBudgets();
        addBlocksWithPasses(x, count);
        return x;
    }

    // Terms: blocks, passes and steps

    private static void blocksAreNumberedFrom0On() {
        sentence = "BLOCKS are numbered from 0 on";
        LayerBudgets x = withBlocks(2);
        due("the block behind 1", () -> x.block(), 2);
        dueThrow("block -1", () -> x.step(-1, NONE, 0), ARGUMENT);
        due("block 0", () -> x.step(0, NONE, 0), 0);
        due("block 2", () -> x.step(2, NONE, 0), 0);
        dueThrow("block 3", () -> x.step(3, NONE, 0), ARGUMENT);
    }

    private static void aGainMayBeBelow0() {
        sentence = "a GAIN, which may be below 0";
        LayerBudgets x = withBlocks(1);
        due("a gain of -1", () -> x.pass(0, 1, -1), 1);
        due("a gain of 0", () -> x.pass(0, 1, 0), 2);
        due("a gain of 1", () -> x.pass(0, 1, 1), 3);
        dueSteps("the loss is made good, not more", x, 0);
        due("a gain of 1 more", () -> x.pass(0, 1, 1), 4);
        dueSteps("the loss counts", x, 0, step(4, 4, 1));
    }

    private static void theFirstStepBeginsAt0() {
        sentence = "the first one begins at 0 passes, each other one where the one before ended";
        LayerBudgets x = with(passes(7, 70, 1, -3, 4, 9, 2, 1));
        dueSteps("three steps", x, 0, step(1, 7, 70), step(3, 5, 6), step(4, 2, 1));
    }

    private static void aStepEndsAbove() {
        sentence = "ends at that k above j for which G(k) is above G(j)";
        dueSteps("a gain of -1", with(passes(1, -1)), 0);
        dueSteps("a gain of 0", with(passes(1, 0)), 0);
        dueSteps("a gain of 1", with(passes(1, 1)), 0, step(1, 1, 1));
        dueSteps("1 below where the step before ended", with(passes(1, 9, 1, -5, 1, 4)), 0, step(1, 1, 9));
        dueSteps("as much as where the step before ended", with(passes(1, 9, 1, -5, 1, 5)), 0, step(1, 1, 9));
        dueSteps("1 above where the step before ended", with(passes(1, 9, 1, -5, 1, 6)), 0, step(1, 1, 9), step(3, 2, 1));
        dueSteps("without bytes, a gain of -1", with(passes(0, -1)), 0);
        dueSteps("without bytes, a gain of 0", with(passes(0, 0)), 0);
        dueSteps("without bytes, a gain of 1", with(passes(0, 1)), 0, step(1, 0, 1));
    }

    private static void theGreatestSlope() {
        sentence = "whose SLOPE, G(k) - G(j) divided by B(k) - B(j), is greatest";
        dueSteps("a smaller one behind", with(passes(3, 10, 3, 9)), 0, step(1, 3, 10), step(2, 3, 9));
        dueSteps("a greater one behind", with(passes(3, 10, 3, 11)), 0, step(2, 6, 21));
        dueSteps("a smaller one behind a loss", with(passes(2, 10, 2, -1, 2, 20)), 0, step(1, 2, 10), step(3, 4, 19));
        dueSteps("a greater one behind a loss", with(passes(2, 10, 2, -1, 2, 22)), 0, step(3, 6, 31));
        dueSteps("more gain, but a smaller slope", with(passes(1, 2, 100, 100)), 0, step(1, 1, 2), step(2, 100, 100));
        dueSteps("behind a step", with(passes(1, 90, 3, 10, 3, 9)), 0, step(1, 1, 90), step(2, 3, 10), step(3, 3, 9));
        dueSteps("greater behind a step", with(passes(1, 90, 3, 10, 3, 11)), 0, step(1, 1, 90), step(3, 6, 21));
        dueSteps("greater than two steps", with(passes(1, 9, 1, 6, 1, 13)), 0, step(3, 3, 28));
        dueSteps("greater than the second alone", with(passes(1, 9, 1, 6, 1, 11)), 0, step(1, 1, 9), step(3, 2, 17));
    }

    private static void theGreatestSlopeAtTheLimits() {
        sentence = "whose SLOPE, G(k) - G(j) divided by B(k) - B(j), is greatest (at the limits of passes, bytes and gains)";
        for (int bytes = 545; bytes <= 547; bytes++) {
            LayerBudgets x = withBlocks(1);
            addPasses(x, 0, 119, 546, MOST_GAIN);
            x.pass(0, bytes, MOST_GAIN);
            long most = 119 * MOST_GAIN;
            if (bytes <= 546) {
                dueSteps("last pass of " + bytes, x, 0, step(120, 64974 + bytes, 120 * MOST_GAIN));
            } else {
                dueSteps("last pass of " + bytes, x, 0, step(119, 64974, most), step(120, bytes, MOST_GAIN));
            }
        }
        LayerBudgets lowest = withBlocks(1);
        addPasses(lowest, 0, 119, 0, -MOST_GAIN);
        lowest.pass(0, 65535, MOST_GAIN);
        dueSteps("from the lowest sum", lowest, 0);
    }

    private static void beyondAllOthersWithoutBytes() {
        sentence = "(beyond all others if the bytes are 0)";
        dueSteps("0 bytes", with(passes(0, 1, 1, MOST_GAIN)), 0, step(1, 0, 1), step(2, 1, MOST_GAIN));
        dueSteps("1 byte", with(passes(1, 1, 1, MOST_GAIN)), 0, step(2, 2, MOST_GAIN + 1));
        dueSteps("0 bytes behind bytes", with(passes(4, 8, 0, 1)), 0, step(2, 4, 9));
        dueSteps("0 bytes behind a step's end", with(passes(1, 9, 4, 8, 0, 1)), 0, step(1, 1, 9), step(3, 4, 9));
        Maker two = () -> with(passes(1, MOST_GAIN), passes(0, 1));
        dueBudget(two, 0, 0, threshold(1, 0), 0, 1);
        dueBudget(two, 1, 1, threshold(MOST_GAIN, 1), 1, 1);
    }

    private static void theGreatestK() {
        sentence = "the greatest k of those with this slope";
        dueSteps("just below", with(passes(3, 10, 3, 9)), 0, step(1, 3, 10), step(2, 3, 9));
        dueSteps("just this slope", with(passes(3, 10, 3, 10)), 0, step(2, 6, 20));
        dueSteps("three of this slope", with(passes(2, 10, 1, 5, 3, 15)), 0, step(3, 6, 30));
        dueSteps("not one behind them", with(passes(2, 10, 1, 5, 1, 4)), 0, step(2, 3, 15), step(3, 1, 4));
        dueSteps("just this slope behind a loss", with(passes(2, 10, 2, -1, 2, 21)), 0, step(3, 6, 30));
        dueSteps("a pass of nothing", with(passes(2, 10, 0, 0)), 0, step(2, 2, 10));
        dueSteps("a pass of a byte", with(passes(2, 10, 1, 0)), 0, step(1, 2, 10));
        dueSteps("a pass of a loss", with(passes(2, 10, 0, -1)), 0, step(1, 2, 10));
        dueSteps("behind a step", with(passes(1, 90, 3, 10, 3, 10)), 0, step(1, 1, 90), step(3, 6, 20));
    }

    private static void theGreatestKWithoutBytes() {
        sentence = "the greatest k of those with this slope (if the bytes are 0)";
        dueSteps("more gain", with(passes(0, 7, 0, 1)), 0, step(2, 0, 8));
        dueSteps("as much gain", with(passes(0, 7, 0, 0)), 0, step(2, 0, 7));
        dueSteps("less gain", with(passes(0, 7, 0, -6)), 0, step(2, 0, 1));
        dueSteps("no gain left", with(passes(0, 7, 0, -7)), 0, step(1, 0, 7));
        dueSteps("a loss", with(passes(0, 7, 0, -8)), 0, step(1, 0, 7));
        dueSteps("with a byte", with(passes(0, 7, 1, 1)), 0, step(1, 0, 7), step(2, 1, 1));
    }

    private static void noFurtherStep() {
        sentence = "If there is no such k, there is no further step.";
        dueSteps("no passes", withBlocks(1), 0);
        dueSteps("losses alone", with(passes(1, -1, 0, -1, 2, 0)), 0);
        dueSteps("a loss behind", with(passes(1, 5, 1, -1)), 0, step(1, 1, 5));
        dueSteps("no gain behind", with(passes(1, 5, 1, 0)), 0, step(1, 1, 5));
        dueSteps("a gain behind", with(passes(1, 5, 1, 1)), 0, step(1, 1, 5), step(2, 1, 1));
        LayerBudgets x = with(passes(1, 5, 1, -1, 1, 1));
        dueThrow("the step behind the last", () -> x.step(0, 1, 0), INDEX);
        due("one more pass", () -> x.pass(0, 1, 1), 4);
        due("it ends there", () -> x.step(0, 1, 0), 4);
    }

    // Terms: layers

    private static void theGreatestFirst() {
        sentence = "let the slopes of all blocks' steps be gone through, the greatest first";
        dueBudget(() -> with(passes(1, 10), passes(1, 9)), 1, 1, threshold(10, 1), 1, 0);
        dueBudget(() -> with(passes(1, 9), passes(1, 10)), 1, 1, threshold(10, 1), 0, 1);
        dueBudget(() -> with(passes(1, 10), passes(1, 10)), 1, 0, noThreshold(), 0, 0);
        dueBudget(() -> with(passes(1, 8), passes(1, 10, 1, 9)), 2, 2, threshold(9, 1), 0, 2);
        dueBudget(() -> with(passes(1, 9), passes(1, 10, 1, 8)), 2, 2, threshold(9, 1), 1, 1);
    }

    private static void equalOnesTogether() {
        sentence = "equal ones together";
        Maker equal = () -> with(passes(6, 30), passes(2, 10), passes(4, 20));
        dueBudget(equal, 11, 0, noThreshold(), 0, 0, 0);
        dueBudget(equal, 12, 12, threshold(30, 6), 1, 1, 1);
        dueBudget(equal, 13, 12, threshold(30, 6), 1, 1, 1);
        Maker oneBelow = () -> with(passes(6, 29), passes(2, 10), passes(4, 20));
        dueBudget(oneBelow, 11, 6, threshold(10, 2), 0, 1, 1);
        dueBudget(oneBelow, 12, 12, threshold(29, 6), 1, 1, 1);
        Maker oneAbove = () -> with(passes(6, 31), passes(2, 10), passes(4, 20));
        dueBudget(oneAbove, 11, 6, threshold(31, 6), 1, 0, 0);
        dueBudget(oneAbove, 12, 12, threshold(10, 2), 1, 1, 1);
        Maker withoutBytes = () -> with(passes(0, 5), passes(0, 7), passes(1, 99));
        dueBudget(withoutBytes, 0, 0, threshold(5, 0), 1, 1, 0);
    }

    private static void equalOnesBehindOthers() {
        sentence = "equal ones together (one of them behind another step)";
        Maker maker = () -> with(passes(1, 10, 2, 8), passes(3, 12));
        dueBudget(maker, 5, 1, threshold(10, 1), 1, 0);
        dueBudget(maker, 6, 6, threshold(8, 2), 2, 1);
    }

    /** 63 passes of the greatest gain and none of bytes behind a first pass make one step of all. */
    private static LayerBudgets withSteep(int oneBytes, long oneGain, int otherBytes, long otherGain) {
        LayerBudgets x = withBlocks(2);
        x.pass(0, oneBytes, oneGain - 63 * MOST_GAIN);
        addPasses(x, 0, 63, 0, MOST_GAIN);
        x.pass(1, otherBytes, otherGain - 63 * MOST_GAIN);
        addPasses(x, 1, 63, 0, MOST_GAIN);
        return x;
    }

    private static void equalOnesAtTheLimits() {
        sentence = "equal ones together (slopes that a double can't tell apart)";
        long slope = 266342368L;
        Maker equal = () -> withSteep(65535, 65535 * slope, 65534, 65534 * slope);
        dueBudget(equal, 131068, 0, noThreshold(), 0, 0);
        dueBudget(equal, 131069, 131069, threshold(65535 * slope, 65535), 64, 64);
        Maker greater = () -> withSteep(65535, 65535 * slope - 1, 65534, 65534 * slope - 1);
        dueBudget(greater, 131068, 65535, threshold(65535 * slope - 1, 65535), 64, 0);
        Maker smaller = () -> withSteep(65535, 65535 * slope + 1, 65534, 65534 * slope + 1);
        dueBudget(smaller, 131068, 65534, threshold(65534 * slope + 1, 65534), 0, 64);
    }

    private static void notAboveTheBudget() {
        sentence = "as long as the bytes of all blocks up to their cuts (those steps taken) are not above the budget";
        Maker one = () -> with(passes(5, 50, 3, 9));
        dueBudget(one, 0, 0, noThreshold(), 0);
        dueBudget(one, 4, 0, noThreshold(), 0);
        dueBudget(one, 5, 5, threshold(50, 5), 1);
        dueBudget(one, 6, 5, threshold(50, 5), 1);
        dueBudget(one, 7, 5, threshold(50, 5), 1);
        dueBudget(one, 8, 8, threshold(9, 3), 2);
        dueBudget(one, 9, 8, threshold(9, 3), 2);
        dueBudget(one, MOST, 8, threshold(9, 3), 2);
    }

    private static void notAboveTheBudgetInLaterLayers() {
        sentence = "the bytes of all blocks up to their cuts are not above the budget (with those of the layers before)";
        LayerBudgets x = with(passes(5, 50), passes(3, 9));
        due("layer(5)", () -> x.layer(5), 5);
        due("layer(7)", () -> x.layer(7), 5);
        due("layer(3)", () -> x.layer(3), 5);
        due("layer(8)", () -> x.layer(8), 8);
        dueLayer("too small for both", x, 1, 5, noThreshold(), 1, 0);
        dueLayer("smaller than the one before", x, 2, 5, noThreshold(), 1, 0);
        dueLayer("just both", x, 3, 8, threshold(9, 3), 1, 1);
        LayerBudgets y = with(passes(5, 50), passes(3, 9));
        y.layer(5);
        due("one byte more than both", () -> y.layer(9), 8);
    }

    private static void notAboveTheBudgetAtTheLimits() {
        sentence = "are not above the budget (more bytes than a block may have)";
        Maker three = () -> with(passes(65535, 3), passes(65535, 3), passes(65535, 2));
        dueBudget(three, 131069, 0, noThreshold(), 0, 0, 0);
        dueBudget(three, 131070, 131070, threshold(3, 65535), 1, 1, 0);
        dueBudget(three, 196604, 131070, threshold(3, 65535), 1, 1, 0);
        dueBudget(three, 196605, 196605, threshold(2, 65535), 1, 1, 1);
        dueBudget(three, MOST, 196605, threshold(2, 65535), 1, 1, 1);
    }

    private static void nothingOfASmallerSlope() {
        sentence = "at the first slope with which they would be, nothing of it nor of any smaller one is taken";
        Maker maker = () -> with(passes(10, 100, 1, 4), passes(1, 5), passes(0, 0));
        dueBudget(maker, 9, 0, noThreshold(), 0, 0, 0);
        dueBudget(maker, 10, 10, threshold(100, 10), 1, 0, 0);
        dueBudget(maker, 11, 11, threshold(5, 1), 1, 1, 0);
        Maker between = () -> with(passes(1, 20), passes(10, 100), passes(1, 5));
        dueBudget(between, 10, 1, threshold(20, 1), 1, 0, 0);
        dueBudget(between, 11, 11, threshold(100, 10), 1, 1, 0);
        LayerBudgets x = between.make();
        x.layer(10);
        due("nor in the next layer", () -> x.layer(10), 1);
        dueLayer("nor in the next layer", x, 1, 1, noThreshold(), 1, 0, 0);
    }

    private static void stepsFromTheCutOn() {
        sentence = "steps that begin where the block's cut in the layer before is or behind it";
        LayerBudgets x = with(passes(1, 9, 1, 6, 1, 3, 1, 1));
        x.layer(1);
        due("before it alone", () -> x.layer(1), 1);
        due("where it is", () -> x.layer(2), 2);
        due("where it is and behind it", () -> x.layer(4), 4);
        due("none left", () -> x.layer(9), 4);
        dueLayer("before it alone", x, 1, 1, noThreshold(), 1);
        dueLayer("where it is", x, 2, 2, threshold(6, 1), 2);
        dueLayer("where it is and behind it", x, 3, 4, threshold(1, 1), 4);
        dueLayer("none left", x, 4, 4, noThreshold(), 4);
    }

    private static void noStepsBehindAllPasses() {
        sentence = "steps that begin where the block's cut in the layer before is (behind a layer without budget)";
        LayerBudgets x = with(passes(2, 10, 4, 4), passes(3, 9, 1, -1));
        due("without budget", () -> x.layer(NONE), 10);
        due("with one", () -> x.layer(MOST), 10);
        due("with one of 0", () -> x.layer(0), 10);
        dueLayer("all passes", x, 0, 10, noThreshold(), 2, 2);
        dueLayer("all passes", x, 1, 10, noThreshold(), 2, 2);
        dueLayer("all passes", x, 2, 10, noThreshold(), 2, 2);
    }

    private static void otherwiseAsInTheLayerBefore() {
        sentence = "otherwise as in the layer before (0 before the first one)";
        LayerBudgets x = with(passes(1, 9, 1, -1), passes(1, 6, 1, 5), passes(1, 0));
        x.layer(0);
        x.layer(1);
        x.layer(2);
        x.layer(0);
        x.layer(3);
        dueLayer("the first one", x, 0, 0, noThreshold(), 0, 0, 0);
        dueLayer("a step of block 0", x, 1, 1, threshold(9, 1), 1, 0, 0);
        dueLayer("a step of block 1", x, 2, 2, threshold(6, 1), 1, 1, 0);
        dueLayer("no step", x, 3, 2, noThreshold(), 1, 1, 0);
        dueLayer("one more of block 1", x, 4, 3, threshold(5, 1), 1, 2, 0);
    }

    private static void whereTheLastStepEnds() {
        sentence = "A block's cut is where its last step ends that was taken";
        Maker maker = () -> with(passes(1, 9, 1, -2, 1, 5, 1, 1, 1, -1));
        dueBudget(maker, 2, 1, threshold(9, 1), 1);
        dueBudget(maker, 3, 3, threshold(3, 2), 3);
        dueBudget(maker, 5, 4, threshold(1, 1), 4);
    }

    private static void withoutBudgetAllPasses() {
        sentence = "A layer WITHOUT BUDGET takes all passes of all blocks.";
        Maker maker = () -> with(passes(4, 9, 2, -3, 0, 0), passes(), passes(65535, -MOST_GAIN), passes(3, 0));
        dueBudget(maker, MOST, 4, threshold(9, 4), 1, 0, 0, 0);
        dueBudget(maker, NONE, 65544, noThreshold(), 3, 0, 1, 1);
        dueBudget(maker, 0, 0, noThreshold(), 0, 0, 0, 0);
        LayerBudgets behind = maker.make();
        behind.layer(4);
        due("behind a layer with a budget", () -> behind.layer(NONE), 65544);
        due("behind one without", () -> behind.layer(NONE), 65544);
        dueLayer("behind a layer with a budget", behind, 1, 65544, noThreshold(), 3, 0, 1, 1);
        dueLayer("behind one without", behind, 2, 65544, noThreshold(), 3, 0, 1, 1);
        dueLayer("the first one stays", behind, 0, 4, threshold(9, 4), 1, 0, 0, 0);
        dueBudget(() -> new LayerBudgets(), NONE, 0, noThreshold());
        dueBudget(() -> withBlocks(1), NONE, 0, noThreshold(), 0);
    }

    private static void theThresholdIsTheLastTaken() {
        sentence = "The layer's THRESHOLD is the last slope that was taken.";
        Maker maker = () -> with(passes(1, 9), passes(1, 8), passes(1, 7));
        dueBudget(maker, 0, 0, noThreshold(), 0, 0, 0);
        dueBudget(maker, 1, 1, threshold(9, 1), 1, 0, 0);
        dueBudget(maker, 2, 2, threshold(8, 1), 1, 1, 0);
        dueBudget(maker, 3, 3, threshold(7, 1), 1, 1, 1);
    }

    // Terms: a call that throws

    private static void show(StringBuilder out, Call call) {
        out.append(' ').append(answered(call));
    }

    /** No object has more than 1024 blocks; a bound keeps a broken one from being asked for ever. */
    private static boolean hasBlock(LayerBudgets x, int block) {
        return block < 1100 && !answered(() -> x.step(block, NONE, 0)).equals(ARGUMENT);
    }

    /** Every answer that asks without changing. */
    private static String seen(LayerBudgets x) {
        StringBuilder out = new StringBuilder();
        int blocks = 0;
        while (hasBlock(x, blocks)) {
            int block = blocks;
            int steps = x.step(block, NONE, 0);
            for (int s = 0; s < steps; s++) {
                int i = s;
                show(out, () -> x.step(block, i, 0));
                show(out, () -> x.step(block, i, 1));
                show(out, () -> x.gain(block, i));
            }
            blocks++;
            out.append(';');
        }
        for (int l = 0; l < x.layers(); l++) {
            int layer = l;
            show(out, () -> x.total(layer));
            show(out, () -> x.threshold(layer, 0));
            show(out, () -> x.threshold(layer, 1));
            for (int b = 0; b < blocks; b++) {
                int block = b;
                show(out, () -> x.cut(layer, block));
            }
            out.append(';');
        }
        return out.toString();
    }

    /** What later calls answer tells what can't be asked: passes, their bytes, and how many there are in all. */
    private static String later(LayerBudgets x) {
        StringBuilder out = new StringBuilder();
        show(out, () -> x.layer(6));
        show(out, () -> x.layer(NONE));
        out.append(seen(x));
        show(out, () -> x.pass(1, 1, 1));
        show(out, () -> x.pass(0, 0, 100));
        show(out, () -> x.pass(0, 1, 2));
        show(out, () -> x.pass(0, 1, 2));
        show(out, () -> x.block());
        show(out, () -> x.layer(3));
        show(out, () -> x.layer(6));
        show(out, () -> x.layer(NONE));
        return out.append(seen(x)).toString();
    }

    private static void changesNothing(String what, Maker maker, CallOn call, String want) {
        LayerBudgets x = maker.make();
        LayerBudgets twin = maker.make();
        dueThrow(what, () -> call.answer(x), want);
        dueText(what + ", what is seen", seen(x), seen(twin));
        dueText(what + ", what comes later", later(x), later(twin));
    }

    private static LayerBudgets withTwoLayers() {
        LayerBudgets x = with(passes(4, 40, 3, 9, 1, -1), passes(2, 8, 1, 1), passes());
        x.layer(4);
        x.layer(7);
        return x;
    }

    private static LayerBudgets withManyBytes() {
        LayerBudgets x = with(passes(65534, 40), passes(2, 8, 1, 1));
        x.layer(4);
        x.layer(65535);
        return x;
    }

    private static LayerBudgets withManyPassesOfABlock() {
        LayerBudgets x = withBlocks(2);
        addPasses(x, 0, 120, 1, 3);
        x.layer(200);
        return x;
    }

    private static LayerBudgets withManyPasses() {
        LayerBudgets x = withPasses(16384);
        x.layer(NONE);
        return x;
    }

    private static LayerBudgets withManyBlocks() {
        LayerBudgets x = withBlocks(1024);
        x.pass(0, 3, 4);
        x.layer(3);
        return x;
    }

    private static LayerBudgets withManyLayers() {
        LayerBudgets x = with(passes(4, 40, 3, 9, 1, -1), passes(2, 8, 1, 1));
        addLayers(x, 63, 4);
        x.layer(6);
        return x;
    }

    private static void aThrowingPassChangesNothing() {
        sentence = "A call that throws changes nothing. (pass)";
        changesNothing("block -1", () -> withTwoLayers(), x -> x.pass(-1, 1, 1), ARGUMENT);
        changesNothing("block 3", () -> withTwoLayers(), x -> x.pass(3, 1, 1), ARGUMENT);
        changesNothing("bytes -1", () -> withTwoLayers(), x -> x.pass(0, -1, 1), ARGUMENT);
        changesNothing("gain above", () -> withTwoLayers(), x -> x.pass(0, 1, MOST_GAIN + 1), ARGUMENT);
        changesNothing("gain below", () -> withTwoLayers(), x -> x.pass(0, 1, -MOST_GAIN - 1), ARGUMENT);
        changesNothing("65,536 bytes", () -> withManyBytes(), x -> x.pass(0, 2, 1), STATE);
        changesNothing("pass 121", () -> withManyPassesOfABlock(), x -> x.pass(0, 1, 1), STATE);
        changesNothing("pass 16,385", () -> withManyPasses(), x -> x.pass(136, 1, 1), STATE);
    }

    private static void refusedPassesAreNotCounted() {
        sentence = "A call that throws changes nothing. (a refused pass is none of the 120 and the 16,384)";
        LayerBudgets x = withPasses(16383);
        for (int i = 0; i < 3; i++) {
            dueThrow("bytes of 65,536", () -> x.pass(137, 65536, 1), STATE);
            dueThrow("pass 121", () -> x.pass(0, 1, 1), STATE);
            dueThrow("bytes -1", () -> x.pass(137, -1, 1), ARGUMENT);
        }
        due("pass 16,384", () -> x.pass(137, 65535, 1), 1);
    }

    private static void anotherThrowingCallChangesNothing() {
        sentence = "A call that throws changes nothing. (block, step, gain, layer, cut, total, threshold)";
        changesNothing("block 1025", () -> withManyBlocks(), x -> x.block(), STATE);
        changesNothing("step of no block", () -> withTwoLayers(), x -> x.step(3, 0, 0), ARGUMENT);
        changesNothing("step's w", () -> withTwoLayers(), x -> x.step(0, 0, 2), ARGUMENT);
        changesNothing("no such step", () -> withTwoLayers(), x -> x.step(0, 2, 0), INDEX);
        changesNothing("gain of no block", () -> withTwoLayers(), x -> x.gain(3, 0), ARGUMENT);
        changesNothing("gain of no step", () -> withTwoLayers(), x -> x.gain(0, 2), INDEX);
        changesNothing("budget -2", () -> withTwoLayers(), x -> x.layer(-2), ARGUMENT);
        changesNothing("layer 65", () -> withManyLayers(), x -> x.layer(MOST), STATE);
        changesNothing("layer 65 without budget", () -> withManyLayers(), x -> x.layer(NONE), STATE);
        changesNothing("cut of no block", () -> withTwoLayers(), x -> x.cut(0, 3), ARGUMENT);
        changesNothing("cut of no layer", () -> withTwoLayers(), x -> x.cut(2, 0), INDEX);
        changesNothing("total of no layer", () -> withTwoLayers(), x -> x.total(2), INDEX);
        changesNothing("threshold's w", () -> withTwoLayers(), x -> x.threshold(0, 2), ARGUMENT);
        changesNothing("threshold of no layer", () -> withTwoLayers(), x -> x.threshold(2, 0), INDEX);
    }

    private static void theConstant() {
        sentence = "`NONE = -1`: There is none.";
        due("NONE", () -> LayerBudgets.NONE, -1);
    }

    private static void all512Calls() {
        sentence = "An object is used for at most 512 calls after it has been made";
        LayerBudgets x = withBlocks(4);
        for (int b = 0; b < 4; b++) {
            addPasses(x, b, 120, 546, MOST_GAIN - b);
        }
        addLayers(x, 24, 0);
        due("call 509", () -> x.layer(262079), 196560);
        due("call 510", () -> x.layer(262080), 262080);
        due("call 511", () -> x.cut(25, 3), 120);
        due("call 512", () -> x.threshold(25, 0), 120 * (MOST_GAIN - 3));
    }

    // Promises 1 to 4

    private static void promise1NoBlocks() {
        sentence = "1: No blocks, no layers.";
        LayerBudgets x = new LayerBudgets();
        due("layers", () -> x.layers(), 0);
        dueThrow("pass of block 0", () -> x.pass(0, 0, 0), ARGUMENT);
        dueThrow("steps of block 0", () -> x.step(0, NONE, 0), ARGUMENT);
        dueThrow("gain of block 0", () -> x.gain(0, 0), ARGUMENT);
        dueThrow("cut of block 0", () -> x.cut(0, 0), ARGUMENT);
        dueThrow("total of layer 0", () -> x.total(0), INDEX);
        dueThrow("threshold of layer 0", () -> x.threshold(0, 0), INDEX);
        due("the first block", () -> x.block(), 0);
        due("its first pass", () -> x.pass(0, 3, 5), 1);
        due("the first layer", () -> x.layer(3), 3);
        LayerBudgets other = new LayerBudgets();
        due("another's layers", () -> other.layers(), 0);
        dueThrow("another's block 0", () -> other.step(0, NONE, 0), ARGUMENT);
    }

    private static void dueNothingThere(String what, LayerBudgets x) {
        due(what + ": layers", () -> x.layers(), 0);
        dueThrow(what + ": block 0", () -> x.step(0, NONE, 0), ARGUMENT);
        dueThrow(what + ": pass of block 0", () -> x.pass(0, 1, 1), ARGUMENT);
        dueThrow(what + ": cut of block 0", () -> x.cut(0, 0), ARGUMENT);
        dueThrow(what + ": total of layer 0", () -> x.total(0), INDEX);
        dueThrow(what + ": threshold of layer 0", () -> x.threshold(0, 0), INDEX);
        due(what + ": a layer of no blocks", () -> x.layer(NONE), 0);
    }

    private static void promise2AllGo() {
        sentence = "2: All blocks and layers go.";
        LayerBudgets empty = new LayerBudgets();
        empty.clear();
        dueNothingThere("nothing there", empty);
        LayerBudgets blocks = with(passes(3, 30), passes(4, 50));
        blocks.clear();
        dueNothingThere("blocks alone", blocks);
        LayerBudgets layers = new LayerBudgets();
        layers.layer(3);
        layers.clear();
        dueNothingThere("layers alone", layers);
        LayerBudgets both = withTwoLayers();
        both.clear();
        both.clear();
        dueNothingThere("both, cleared twice", both);
        due("blocks begin at 0 again", () -> both.block(), 0);
        due("the block has no steps", () -> both.step(0, NONE, 0), 0);
        due("the block has no passes", () -> both.pass(0, 1, 8), 1);
        due("its cut was 0", () -> both.layer(0), 0);
        due("its bytes are its own", () -> both.layer(NONE), 1);
        dueLayer("a layer behind", both, 1, 1, noThreshold(), 1);
    }

    private static void promise2AllLimitsBeginAgain() {
        sentence = "2: All blocks and layers go. (when an object is full, all of it is free again)";
        LayerBudgets blocks = withManyBlocks();
        blocks.clear();
        addBlocks(blocks, 1023);
        due("block 1024 again", () -> blocks.block(), 1023);
        dueThrow("block 1025 again", () -> blocks.block(), STATE);
        LayerBudgets passes = withManyPasses();
        passes.clear();
        addBlocksWithPasses(passes, 16383);
        due("pass 16,384 again", () -> passes.pass(137, 1, 1), 1);
        dueThrow("pass 16,385 again", () -> passes.pass(137, 1, 1), STATE);
        LayerBudgets layers = withManyLayers();
        layers.clear();
        addLayers(layers, 63, 5);
        due("layer 64 again", () -> layers.layer(5), 0);
        dueThrow("layer 65 again", () -> layers.layer(5), STATE);
        LayerBudgets block = withManyPassesOfABlock();
        block.clear();
        block.block();
        due("65,535 bytes again", () -> block.pass(0, 65535, 1), 1);
        addPasses(block, 0, 118, 0, 1);
        due("pass 120 again", () -> block.pass(0, 0, 1), 120);
    }

    private static void promise3ANewBlock() {
        sentence = "3: A new block without passes: its number.";
        LayerBudgets x = new LayerBudgets();
        due("the first", () -> x.block(), 0);
        addPasses(x, 0, 120, 1, 1);
        due("the second", () -> x.block(), 1);
        due("its steps", () -> x.step(1, NONE, 0), 0);
        due("its first pass", () -> x.pass(1, 65535, 1), 1);
        due("the third", () -> x.block(), 2);
        due("its bytes", () -> x.layer(NONE), 65655);
        due("its passes", () -> x.cut(0, 2), 0);
    }

    /** What layers left behind shows in the next layer too: its cuts would not begin at 0. */
    private static void dueLayersGone(String what, LayerBudgets x) {
        due(what + ": layers", () -> x.layers(), 0);
        dueThrow(what + ": cut", () -> x.cut(0, 0), INDEX);
        dueThrow(what + ": total", () -> x.total(0), INDEX);
        dueThrow(what + ": threshold", () -> x.threshold(0, 0), INDEX);
        due(what + ": cuts begin at 0", () -> x.layer(0), 0);
        due(what + ": steps are taken again", () -> x.layer(2), 2);
        dueLayer(what + ": nothing yet", x, 0, 0, noThreshold(), 0);
        dueLayer(what + ": taken again", x, 1, 2, threshold(10, 2), 1);
    }

    private static LayerBudgets withLayers(int count, int budget) {
        LayerBudgets x = with(passes(2, 10, 3, 6));
        addLayers(x, count, budget);
        return x;
    }

    private static void promise3TheLayersGo() {
        sentence = "3: The layers go.";
        for (int count : new int[] {0, 1, 63, 64}) {
            for (int budget : new int[] {0, 2, 5, NONE}) {
                LayerBudgets x = withLayers(count, budget);
                due("block", () -> x.block(), 1);
                dueLayersGone(count + " layers of " + budget, x);
            }
        }
    }

    private static void promise3Limit() {
        sentence = "3: IllegalStateException if there are 1024.";
        LayerBudgets x = withBlocks(1022);
        due("if there are 1022", () -> x.block(), 1022);
        due("if there are 1023", () -> x.block(), 1023);
        dueThrow("if there are 1024", () -> x.block(), STATE);
        dueThrow("if there are 1024 still", () -> x.block(), STATE);
        due("the last one is there", () -> x.pass(1023, 1, 1), 1);
        dueThrow("none behind it is", () -> x.pass(1024, 1, 1), ARGUMENT);
    }

    private static void promise4HowMany() {
        sentence = "4: One more pass of a block: how many it has.";
        LayerBudgets x = withBlocks(2);
        due("first", () -> x.pass(0, 0, 0), 1);
        due("second", () -> x.pass(0, 0, 0), 2);
        due("first of another block", () -> x.pass(1, 0, 0), 1);
        due("third", () -> x.pass(0, 0, 0), 3);
    }

    private static void promise4TheLayersGo() {
        sentence = "4: The layers go.";
        for (int count : new int[] {0, 1, 63, 64}) {
            for (int budget : new int[] {0, 2, 5, NONE}) {
                LayerBudgets x = withLayers(count, budget);
                due("pass", () -> x.pass(0, 0, 0), 3);
                dueLayersGone(count + " layers of " + budget, x);
            }
        }
    }

    private static void promise4NoSuchBlock() {
        sentence = "4: IllegalArgumentException if there is no such block";
        LayerBudgets x = withBlocks(2);
        dueThrow("block -1", () -> x.pass(-1, 1, 1), ARGUMENT);
        due("block 0", () -> x.pass(0, 1, 1), 1);
        due("block 1", () -> x.pass(1, 1, 1), 1);
        dueThrow("block 2", () -> x.pass(2, 1, 1), ARGUMENT);
        dueThrow("the least block", () -> x.pass(LEAST, 1, 1), ARGUMENT);
        dueThrow("the most block", () -> x.pass(MOST, 1, 1), ARGUMENT);
    }

    private static void promise4BytesBelow0() {
        sentence = "4: IllegalArgumentException if bytes is below 0";
        LayerBudgets x = withBlocks(1);
        dueThrow("the least bytes", () -> x.pass(0, LEAST, 1), ARGUMENT);
        dueThrow("-1", () -> x.pass(0, -1, 1), ARGUMENT);
        due("0", () -> x.pass(0, 0, 1), 1);
        due("1", () -> x.pass(0, 1, 1), 2);
        dueThrow("-1 behind a pass of bytes", () -> x.pass(0, -1, 1), ARGUMENT);
        due("the bytes", () -> x.layer(NONE), 1);
    }

    private static void promise4GainOutside() {
        sentence = "4: IllegalArgumentException if gain is not -2^38 .. 2^38";
        LayerBudgets x = withBlocks(1);
        dueThrow("2^38 + 1", () -> x.pass(0, 1, MOST_GAIN + 1), ARGUMENT);
        due("2^38", () -> x.pass(0, 1, MOST_GAIN), 1);
        due("what it gains", () -> x.gain(0, 0), MOST_GAIN);
        due("2^38 - 1", () -> x.pass(0, 1, MOST_GAIN - 1), 2);
        dueThrow("-2^38 - 1", () -> x.pass(0, 1, -MOST_GAIN - 1), ARGUMENT);
        due("-2^38", () -> x.pass(0, 1, -MOST_GAIN), 3);
        due("-2^38 + 1", () -> x.pass(0, 1, -MOST_GAIN + 1), 4);
        dueThrow("the greatest long", () -> x.pass(0, 1, Long.MAX_VALUE), ARGUMENT);
        dueThrow("the least long", () -> x.pass(0, 1, Long.MIN_VALUE), ARGUMENT);
        dueThrow("2^38 + 2^32, whose low half is 2^38's", () -> x.pass(0, 1, MOST_GAIN + (1L << 32)), ARGUMENT);
        due("a gain of more than 32 bits", () -> x.pass(0, 1, 1L << 33), 5);
        dueSteps("the gains together", x, 0, step(1, 1, MOST_GAIN), step(2, 1, MOST_GAIN - 1));
    }

    private static void promise4Passes120() {
        sentence = "4: IllegalStateException if the block has 120 passes";
        LayerBudgets x = withBlocks(2);
        addPasses(x, 0, 118, 1, 1);
        due("if it has 118", () -> x.pass(0, 1, 1), 119);
        due("if it has 119", () -> x.pass(0, 1, 1), 120);
        dueThrow("if it has 120", () -> x.pass(0, 0, 1), STATE);
        dueThrow("if it has 120 still", () -> x.pass(0, 0, -1), STATE);
        due("of another block", () -> x.pass(1, 1, 1), 1);
        dueSteps("the block", x, 0, step(120, 120, 120));
        dueThrow("no such block", () -> x.pass(2, 1, 1), ARGUMENT);
        dueThrow("bytes below 0 too", () -> x.pass(0, -1, 1), ARGUMENT);
        dueThrow("gain above 2^38 too", () -> x.pass(0, 1, MOST_GAIN + 1), ARGUMENT);
    }

    private static void promise4Bytes65535() {
        sentence = "4: IllegalStateException if the block would have more than 65,535 bytes";
        LayerBudgets once = withBlocks(3);
        due("65,534 at once", () -> once.pass(0, 65534, 1), 1);
        due("65,535 at once", () -> once.pass(1, 65535, 1), 1);
        dueThrow("65,536 at once", () -> once.pass(2, 65536, 1), STATE);
        dueThrow("the most bytes at once", () -> once.pass(2, MOST, 1), STATE);
        due("nothing came of them", () -> once.pass(2, 65535, 1), 1);
        LayerBudgets slowly = with(passes(65533, 1));
        dueThrow("65,536", () -> slowly.pass(0, 3, 1), STATE);
        dueThrow("beyond the greatest int", () -> slowly.pass(0, MOST, 1), STATE);
        due("65,534", () -> slowly.pass(0, 1, 1), 2);
        due("65,535", () -> slowly.pass(0, 1, 1), 3);
        due("65,535 still", () -> slowly.pass(0, 0, 1), 4);
        dueThrow("65,536", () -> slowly.pass(0, 1, 1), STATE);
        due("the bytes", () -> slowly.layer(NONE), 65535);
        dueThrow("gain above 2^38 too", () -> slowly.pass(0, 1, MOST_GAIN + 1), ARGUMENT);
        dueThrow("gain below -2^38 too", () -> slowly.pass(0, 1, -MOST_GAIN - 1), ARGUMENT);
    }

    private static void promise4AllPasses16384() {
        sentence = "4: IllegalStateException if all blocks have 16,384 passes together";
        LayerBudgets x = withPasses(16382);
        due("if they have 16,382", () -> x.pass(137, 1, 1), 1);
        due("if they have 16,383", () -> x.pass(137, 1, 1), 2);
        dueThrow("if they have 16,384", () -> x.pass(137, 1, 1), STATE);
        dueThrow("of a block with room", () -> x.pass(136, 0, 0), STATE);
        int empty = x.block();
        dueThrow("of a new block", () -> x.pass(empty, 0, 0), STATE);
        dueThrow("bytes below 0 too", () -> x.pass(empty, -1, 0), ARGUMENT);
    }

    // Promises 5 and 6

    private static void promise5WhichStep() {
        sentence = "5: Of step i of a block: the passes up to its end (w = 0), the bytes that it takes (1)";
        LayerBudgets x = with(passes(9, 9), passes(2, 10, 3, 12, 5, 5));
        due("the end of the first", () -> x.step(1, 0, 0), 1);
        due("the bytes of the first", () -> x.step(1, 0, 1), 2);
        due("the end of the last", () -> x.step(1, 2, 0), 3);
        due("the bytes of the last", () -> x.step(1, 2, 1), 5);
        due("the end of block 0's", () -> x.step(0, 0, 0), 1);
        due("the bytes of block 0's", () -> x.step(0, 0, 1), 9);
    }

    private static void promise5HowMany() {
        sentence = "5: how many steps the block has if i is NONE (whatever w is)";
        LayerBudgets x = with(passes(2, 10, 5, 5), passes());
        for (int w : new int[] {LEAST, -2, -1, 0, 1, 2, MOST}) {
            due("w = " + w, () -> x.step(0, NONE, w), 2);
            due("of none, w = " + w, () -> x.step(1, NONE, w), 0);
            dueThrow("of no block, w = " + w, () -> x.step(2, NONE, w), ARGUMENT);
            dueThrow("of block -1, w = " + w, () -> x.step(-1, NONE, w), ARGUMENT);
        }
        LayerBudgets most = withMostSteps();
        due("as many as passes", () -> most.step(0, NONE, 0), 120);
        due("the end of the last of them", () -> most.step(0, 119, 0), 120);
        due("the bytes of the last of them", () -> most.step(0, 119, 1), 1);
        dueThrow("none behind it", () -> most.step(0, 120, 0), INDEX);
    }

    private static LayerBudgets withMostSteps() {
        LayerBudgets x = withBlocks(1);
        for (int gain = 120; gain > 0; gain--) {
            x.pass(0, 1, gain);
        }
        return x;
    }

    private static void promise5NoSuchBlock() {
        sentence = "5: IllegalArgumentException if there is no such block";
        LayerBudgets x = with(passes(2, 10), passes(3, 9));
        dueThrow("block -1", () -> x.step(-1, 0, 0), ARGUMENT);
        due("block 0", () -> x.step(0, 0, 1), 2);
        due("block 1", () -> x.step(1, 0, 1), 3);
        dueThrow("block 2", () -> x.step(2, 0, 0), ARGUMENT);
        dueThrow("the least block", () -> x.step(LEAST, 0, 0), ARGUMENT);
        dueThrow("the most block", () -> x.step(MOST, 0, 0), ARGUMENT);
        dueThrow("block 2, and no such step", () -> x.step(2, 9, 0), ARGUMENT);
    }

    private static void promise5NoSuchW() {
        sentence = "5: IllegalArgumentException if there is no such w";
        LayerBudgets x = with(passes(2, 10));
        dueThrow("w = -1", () -> x.step(0, 0, -1), ARGUMENT);
        due("w = 0", () -> x.step(0, 0, 0), 1);
        due("w = 1", () -> x.step(0, 0, 1), 2);
        dueThrow("w = 2", () -> x.step(0, 0, 2), ARGUMENT);
        dueThrow("the least w", () -> x.step(0, 0, LEAST), ARGUMENT);
        dueThrow("the most w", () -> x.step(0, 0, MOST), ARGUMENT);
        dueThrow("w = 2, and no such step", () -> x.step(0, 1, 2), ARGUMENT);
        dueThrow("w = -1, and step -2", () -> x.step(0, -2, -1), ARGUMENT);
    }

    private static void promise5NoSuchStep() {
        sentence = "5: IndexOutOfBoundsException if there is no such step";
        LayerBudgets x = with(passes(2, 10, 3, 9, 1, -1), passes(), passes(1, 0));
        for (int w = 0; w < 2; w++) {
            int which = w;
            dueThrow("step -2, w = " + w, () -> x.step(0, -2, which), INDEX);
            due("step 0, w = " + w, () -> x.step(0, 0, which), 1 + w);
            due("step 1, w = " + w, () -> x.step(0, 1, which), 2 + w);
            dueThrow("step 2, w = " + w, () -> x.step(0, 2, which), INDEX);
            dueThrow("the least step, w = " + w, () -> x.step(0, LEAST, which), INDEX);
            dueThrow("the most step, w = " + w, () -> x.step(0, MOST, which), INDEX);
            dueThrow("without passes, w = " + w, () -> x.step(1, 0, which), INDEX);
            dueThrow("without gain, w = " + w, () -> x.step(2, 0, which), INDEX);
        }
    }

    private static void promise6NoSuchBlock() {
        sentence = "6: IllegalArgumentException likewise.";
        LayerBudgets x = with(passes(2, 10), passes(3, 9));
        dueThrow("block -1", () -> x.gain(-1, 0), ARGUMENT);
        due("block 0", () -> x.gain(0, 0), 10);
        due("block 1", () -> x.gain(1, 0), 9);
        dueThrow("block 2", () -> x.gain(2, 0), ARGUMENT);
        dueThrow("the least block", () -> x.gain(LEAST, 0), ARGUMENT);
        dueThrow("the most block", () -> x.gain(MOST, 0), ARGUMENT);
        dueThrow("block 2, and no such step", () -> x.gain(2, 9), ARGUMENT);
        dueThrow("block 2, and NONE", () -> x.gain(2, NONE), ARGUMENT);
    }

    private static void promise6NoSuchStep() {
        sentence = "6: IndexOutOfBoundsException likewise.";
        LayerBudgets x = with(passes(2, 10, 3, 9, 1, -1), passes(), passes(1, 0));
        dueThrow("step -2", () -> x.gain(0, -2), INDEX);
        dueThrow("step NONE", () -> x.gain(0, NONE), INDEX);
        due("step 0", () -> x.gain(0, 0), 10);
        due("step 1", () -> x.gain(0, 1), 9);
        dueThrow("step 2", () -> x.gain(0, 2), INDEX);
        dueThrow("the least step", () -> x.gain(0, LEAST), INDEX);
        dueThrow("the most step", () -> x.gain(0, MOST), INDEX);
        dueThrow("without passes", () -> x.gain(1, 0), INDEX);
        dueThrow("without gain", () -> x.gain(2, 0), INDEX);
        LayerBudgets most = withMostSteps();
        due("step 118 of 120", () -> most.gain(0, 118), 2);
        due("step 119 of 120", () -> most.gain(0, 119), 1);
        dueThrow("step 120 of 120", () -> most.gain(0, 120), INDEX);
    }

    private static void promise6WhatItGains() {
        sentence = "6: What step i of a block gains.";
        LayerBudgets x = withBlocks(1);
        addPasses(x, 0, 120, 546, MOST_GAIN);
        due("the most", () -> x.gain(0, 0), 32985348833280L);
        LayerBudgets least = with(passes(1, MOST_GAIN, 1, -MOST_GAIN, 1, MOST_GAIN, 1, 1));
        due("the most of a pass", () -> least.gain(0, 0), MOST_GAIN);
        due("the least", () -> least.gain(0, 1), 1);
    }

    // Promises 7 and 8

    private static void promise7WithOrWithoutBudget() {
        sentence = "7: A new layer with a budget, or without (NONE): how many bytes all layers have then.";
        Maker maker = () -> with(passes(1, 9, 4, 8, 2, -1));
        dueBudget(maker, NONE, 7, noThreshold(), 3);
        dueBudget(maker, 0, 0, noThreshold(), 0);
        dueBudget(maker, 1, 1, threshold(9, 1), 1);
        LayerBudgets x = maker.make();
        due("the first", () -> x.layer(1), 1);
        due("with those before", () -> x.layer(5), 5);
        due("nothing new", () -> x.layer(5), 5);
        due("without budget", () -> x.layer(NONE), 7);
    }

    private static void promise7BudgetBelowNone() {
        sentence = "7: IllegalArgumentException if budget is below NONE";
        LayerBudgets x = with(passes(1, 9));
        dueThrow("the least budget", () -> x.layer(LEAST), ARGUMENT);
        dueThrow("-2", () -> x.layer(-2), ARGUMENT);
        due("none was made", () -> x.layers(), 0);
        due("0", () -> x.layer(0), 0);
        due("NONE", () -> x.layer(NONE), 1);
        due("the most budget", () -> x.layer(MOST), 1);
        dueThrow("-2 without blocks", () -> new LayerBudgets().layer(-2), ARGUMENT);
    }

    private static void promise7Layers64() {
        sentence = "7: IllegalStateException if there are 64 layers.";
        for (int budget : new int[] {NONE, 0, 1, MOST}) {
            LayerBudgets x = with(passes(1, 9));
            addLayers(x, 62, 0);
            due("if there are 62", () -> x.layer(0), 0);
            due("if there are 63, layer(" + budget + ")", () -> x.layer(budget), budget == 0 ? 0 : 1);
            dueThrow("if there are 64, layer(" + budget + ")", () -> x.layer(budget), STATE);
            dueThrow("if there are 64 still", () -> x.layer(0), STATE);
            dueThrow("budget below NONE too", () -> x.layer(-2), ARGUMENT);
            due("the last one", () -> x.total(63), budget == 0 ? 0 : 1);
            x.pass(0, 1, 0);
            due("if they have gone", () -> x.layer(1), 1);
        }
        LayerBudgets empty = new LayerBudgets();
        addLayers(empty, 64, 0);
        dueThrow("without blocks", () -> empty.layer(0), STATE);
    }

    private static void promise8HowMany() {
        sentence = "8: How many layers there are.";
        LayerBudgets x = with(passes(1, 9));
        due("none", () -> x.layers(), 0);
        for (int count = 1; count <= 64; count++) {
            x.layer(count % 3 - 1);
            due(count + " of them", () -> x.layers(), count);
        }
        dueThrow("one more", () -> x.layer(0), STATE);
        due("64 still", () -> x.layers(), 64);
        x.block();
        due("behind block", () -> x.layers(), 0);
        x.layer(0);
        x.pass(0, 1, 1);
        due("behind pass", () -> x.layers(), 0);
        x.layer(0);
        x.clear();
        due("behind clear", () -> x.layers(), 0);
    }

    // Promises 9 to 11

    private static void promise9NoSuchBlock() {
        sentence = "9: IllegalArgumentException if there is no such block";
        LayerBudgets x = with(passes(2, 10), passes(3, 9, 1, 0));
        x.layer(NONE);
        dueThrow("block -1", () -> x.cut(0, -1), ARGUMENT);
        due("block 0", () -> x.cut(0, 0), 1);
        due("block 1", () -> x.cut(0, 1), 2);
        dueThrow("block 2", () -> x.cut(0, 2), ARGUMENT);
        dueThrow("the least block", () -> x.cut(0, LEAST), ARGUMENT);
        dueThrow("the most block", () -> x.cut(0, MOST), ARGUMENT);
        dueThrow("block 2, and no such layer", () -> x.cut(1, 2), ARGUMENT);
        dueThrow("block -1, and layer -1", () -> x.cut(-1, -1), ARGUMENT);
    }

    private static void promise9NoSuchLayer() {
        sentence = "9: IndexOutOfBoundsException if there is no such layer.";
        LayerBudgets x = with(passes(2, 10));
        dueThrow("layer 0 of none", () -> x.cut(0, 0), INDEX);
        x.layer(0);
        x.layer(2);
        dueThrow("layer -1", () -> x.cut(-1, 0), INDEX);
        due("layer 0", () -> x.cut(0, 0), 0);
        due("layer 1", () -> x.cut(1, 0), 1);
        dueThrow("layer 2", () -> x.cut(2, 0), INDEX);
        dueThrow("the least layer", () -> x.cut(LEAST, 0), INDEX);
        dueThrow("the most layer", () -> x.cut(MOST, 0), INDEX);
    }

    private static void promise10NoSuchLayer() {
        sentence = "10: IndexOutOfBoundsException if there is no such layer.";
        LayerBudgets x = with(passes(2, 10));
        dueThrow("layer 0 of none", () -> x.total(0), INDEX);
        x.layer(0);
        x.layer(2);
        dueThrow("layer -1", () -> x.total(-1), INDEX);
        due("layer 0", () -> x.total(0), 0);
        due("layer 1", () -> x.total(1), 2);
        dueThrow("layer 2", () -> x.total(2), INDEX);
        dueThrow("the least layer", () -> x.total(LEAST), INDEX);
        dueThrow("the most layer", () -> x.total(MOST), INDEX);
    }

    private static void promise11TheLowestNumber() {
        sentence = "11: of all steps of that slope taken in that layer the one of the block with the lowest number";
        dueBudget(() -> with(passes(6, 30), passes(2, 10), passes(4, 20)), 12, 12, threshold(30, 6), 1, 1, 1);
        dueBudget(() -> with(passes(4, 20), passes(6, 30), passes(2, 10)), 12, 12, threshold(20, 4), 1, 1, 1);
        dueBudget(() -> with(passes(1, 9), passes(2, 10), passes(4, 20)), 7, 7, threshold(10, 2), 1, 1, 1);
        dueBudget(() -> with(passes(1, 4), passes(2, 10), passes(4, 20)), 6, 6, threshold(10, 2), 0, 1, 1);
        dueBudget(() -> with(passes(1, 9, 4, 20), passes(2, 10)), 7, 7, threshold(20, 4), 2, 1);
        dueBudget(() -> with(passes(2, 10), passes(1, 9, 4, 20)), 7, 7, threshold(10, 2), 1, 2);
        dueBudget(() -> with(passes(1, 0), passes(0, 8), passes(0, 3)), 0, 0, threshold(8, 0), 0, 1, 1);
        LayerBudgets x = with(passes(1, 9), passes(2, 10), passes(4, 20));
        x.layer(1);
        x.layer(7);
        dueLayer("of that layer", x, 1, 7, threshold(10, 2), 1, 1, 1);
        dueLayer("of the layer before", x, 0, 1, threshold(9, 1), 1, 0, 0);
    }

    private static void promise11NoneTaken() {
        sentence = "11: NONE for both if none was taken";
        Maker maker = () -> with(passes(3, 10));
        dueBudget(maker, 2, 0, noThreshold(), 0);
        dueBudget(maker, 3, 3, threshold(10, 3), 1);
        dueBudget(() -> with(passes(0, 1)), 0, 0, threshold(1, 0), 1);
        dueBudget(() -> with(passes(0, 0)), 0, 0, noThreshold(), 0);
        dueBudget(() -> withBlocks(1), 5, 0, noThreshold(), 0);
        dueBudget(() -> new LayerBudgets(), 5, 0, noThreshold());
        LayerBudgets x = maker.make();
        x.layer(3);
        x.layer(3);
        dueLayer("taken in the layer before", x, 1, 3, noThreshold(), 1);
        dueLayer("taken", x, 0, 3, threshold(10, 3), 1);
    }

    private static void promise11WithoutBudget() {
        sentence = "11: NONE for both if the layer is without budget";
        Maker maker = () -> with(passes(3, 10));
        dueBudget(maker, NONE, 3, noThreshold(), 1);
        dueBudget(maker, MOST, 3, threshold(10, 3), 1);
        LayerBudgets x = maker.make();
        x.layer(3);
        x.layer(NONE);
        dueLayer("behind one with a budget", x, 1, 3, noThreshold(), 1);
    }

    private static void promise11AnotherW() {
        sentence = "11: IllegalArgumentException for another w";
        LayerBudgets x = with(passes(3, 10));
        x.layer(3);
        dueThrow("w = -1", () -> x.threshold(0, -1), ARGUMENT);
        due("w = 0", () -> x.threshold(0, 0), 10);
        due("w = 1", () -> x.threshold(0, 1), 3);
        dueThrow("w = 2", () -> x.threshold(0, 2), ARGUMENT);
        dueThrow("the least w", () -> x.threshold(0, LEAST), ARGUMENT);
        dueThrow("the most w", () -> x.threshold(0, MOST), ARGUMENT);
        dueThrow("w = 2, and no such layer", () -> x.threshold(1, 2), ARGUMENT);
        dueThrow("w = -1, and layer -1", () -> x.threshold(-1, -1), ARGUMENT);
    }

    private static void promise11NoSuchLayer() {
        sentence = "11: IndexOutOfBoundsException if there is no such layer.";
        LayerBudgets x = with(passes(2, 10));
        dueThrow("layer 0 of none", () -> x.threshold(0, 0), INDEX);
        x.layer(0);
        x.layer(2);
        for (int w = 0; w < 2; w++) {
            int which = w;
            dueThrow("layer -1, w = " + w, () -> x.threshold(-1, which), INDEX);
            due("layer 0, w = " + w, () -> x.threshold(0, which), NONE);
            due("layer 1, w = " + w, () -> x.threshold(1, which), w == 0 ? 10 : 2);
            dueThrow("layer 2, w = " + w, () -> x.threshold(2, which), INDEX);
            dueThrow("the least layer, w = " + w, () -> x.threshold(LEAST, which), INDEX);
            dueThrow("the most layer, w = " + w, () -> x.threshold(MOST, which), INDEX);
        }
    }

    private static void terms() {
        blocksAreNumberedFrom0On();
        aGainMayBeBelow0();
        theFirstStepBeginsAt0();
        aStepEndsAbove();
        theGreatestSlope();
        theGreatestSlopeAtTheLimits();
        beyondAllOthersWithoutBytes();
        theGreatestK();
        theGreatestKWithoutBytes();
        noFurtherStep();
        theGreatestFirst();
        equalOnesTogether();
        equalOnesBehindOthers();
        equalOnesAtTheLimits();
        notAboveTheBudget();
        notAboveTheBudgetInLaterLayers();
        notAboveTheBudgetAtTheLimits();
        nothingOfASmallerSlope();
        stepsFromTheCutOn();
        noStepsBehindAllPasses();
        otherwiseAsInTheLayerBefore();
        whereTheLastStepEnds();
        withoutBudgetAllPasses();
        theThresholdIsTheLastTaken();
        aThrowingPassChangesNothing();
        refusedPassesAreNotCounted();
        anotherThrowingCallChangesNothing();
        theConstant();
        all512Calls();
    }

    private static void promises() {
        promise1NoBlocks();
        promise2AllGo();
        promise2AllLimitsBeginAgain();
        promise3ANewBlock();
        promise3TheLayersGo();
        promise3Limit();
        promise4HowMany();
        promise4TheLayersGo();
        promise4NoSuchBlock();
        promise4BytesBelow0();
        promise4GainOutside();
        promise4Passes120();
        promise4Bytes65535();
        promise4AllPasses16384();
        promise5WhichStep();
        promise5HowMany();
        promise5NoSuchBlock();
        promise5NoSuchW();
        promise5NoSuchStep();
        promise6NoSuchBlock();
        promise6NoSuchStep();
        promise6WhatItGains();
        promise7WithOrWithoutBudget();
        promise7BudgetBelowNone();
        promise7Layers64();
        promise8HowMany();
        promise9NoSuchBlock();
        promise9NoSuchLayer();
        promise10NoSuchLayer();
        promise11TheLowestNumber();
        promise11NoneTaken();
        promise11WithoutBudget();
        promise11AnotherW();
        promise11NoSuchLayer();
    }

    public static void main(String[] args) {
        terms();
        promises();
        System.out.println(wrong == 0 ? "all answers are as due" : wrong + " answers are not as due");
        if (wrong != 0) {
            System.exit(1);
        }
    }
}
