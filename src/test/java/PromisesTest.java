/** Promise by promise: ordinary inputs, the edges that the document names, and wrong inputs. */
public final class PromisesTest {
    private static final String ARGUMENT = "IllegalArgumentException";
    private static final String STATE = "IllegalStateException";
    private static final String INDEX = "IndexOutOfBoundsException";
    private static final int NONE = LayerBudgets.NONE;
    private static final long MOST_GAIN = 274877906944L;

    private static int wrong = 0;

    private interface Call {
        long answer();
    }

    private static void due(String what, Call call, long want) {
        dueText(what, call, Long.toString(want));
    }

    private static void dueThrow(String what, Call call, String want) {
        dueText(what, call, want);
    }

    private static void dueText(String what, Call call, String want) {
        String got;
        try {
            got = Long.toString(call.answer());
        } catch (RuntimeException e) {
            got = thrown(e);
        }
        if (!got.equals(want)) {
            wrong++;
            System.out.println(what + " answered " + got + ", due is " + want);
        }
    }

    /** What the program does not throw itself, but the machine or the library in it, is never due. */
    private static String thrown(RuntimeException e) {
        String by = e.getStackTrace()[0].getClassName();
        String name = e.getClass().getSimpleName();
        return by.equals("LayerBudgets") ? name : name + " of " + by;
    }

    /** One block for each row; a row holds bytes and gain of each pass in turn. */
    private static LayerBudgets with(long[]... rows) {
        LayerBudgets x = new LayerBudgets();
        for (long[] row : rows) {
            int block = x.block();
            for (int i = 0; i < row.length; i += 2) {
                x.pass(block, (int) row[i], row[i + 1]);
            }
        }
        return x;
    }

    private static long[] passes(long... bytesAndGains) {
        return bytesAndGains;
    }

    private static void dueSteps(String what, LayerBudgets x, int block, long[]... endsBytesGains) {
        due(what + ": steps", () -> x.step(block, NONE, 0), endsBytesGains.length);
        for (int s = 0; s < endsBytesGains.length; s++) {
            int i = s;
            due(what + ": end of step " + s, () -> x.step(block, i, 0), endsBytesGains[s][0]);
            due(what + ": bytes of step " + s, () -> x.step(block, i, 1), endsBytesGains[s][1]);
            due(what + ": gain of step " + s, () -> x.gain(block, i), endsBytesGains[s][2]);
        }
        dueThrow(what + ": step behind the last", () -> x.step(block, endsBytesGains.length, 0), INDEX);
        dueThrow(what + ": gain behind the last", () -> x.gain(block, endsBytesGains.length), INDEX);
    }

    private static void dueLayer(String what, LayerBudgets x, int layer, long total, long[] threshold, long... cuts) {
        due(what + ": total", () -> x.total(layer), total);
        due(what + ": threshold's gain", () -> x.threshold(layer, 0), threshold[0]);
        due(what + ": threshold's bytes", () -> x.threshold(layer, 1), threshold[1]);
        for (int b = 0; b < cuts.length; b++) {
            int block = b;
            due(what + ": cut of block " + b, () -> x.cut(layer, block), cuts[b]);
        }
    }

    private static long[] noThreshold() {
        return new long[] {NONE, NONE};
    }

    private static long[] threshold(long gain, long bytes) {
        return new long[] {gain, bytes};
    }

    private static void promise1NewObject() {
        LayerBudgets x = new LayerBudgets();
        due("NONE", () -> LayerBudgets.NONE, -1);
        due("1: layers of a new object", () -> x.layers(), 0);
        dueThrow("1: block 0 of a new object", () -> x.step(0, NONE, 0), ARGUMENT);
        dueThrow("1: layer 0 of a new object", () -> x.total(0), INDEX);
        due("1: first block", () -> x.block(), 0);
        LayerBudgets other = new LayerBudgets();
        dueThrow("1: objects share no blocks", () -> other.step(0, NONE, 0), ARGUMENT);
    }

    private static void promise2Clear() {
        LayerBudgets x = with(passes(3, 30, 2, 10), passes(4, 50));
        x.layer(5);
        x.layer(NONE);
        x.clear();
        due("2: layers", () -> x.layers(), 0);
        dueThrow("2: total", () -> x.total(0), INDEX);
        dueThrow("2: step", () -> x.step(0, NONE, 0), ARGUMENT);
        dueThrow("2: pass", () -> x.pass(0, 1, 1), ARGUMENT);
        due("2: layer without blocks", () -> x.layer(NONE), 0);
        due("2: blocks begin at 0 again", () -> x.block(), 0);
        due("2: the new block has no steps", () -> x.step(0, NONE, 0), 0);
        due("2: the new block has no passes", () -> x.pass(0, 1, 8), 1);
        due("2: layer", () -> x.layer(1), 1);
        dueLayer("2", x, 0, 1, threshold(8, 1), 1);
        x.clear();
        x.clear();
        due("2: cleared twice", () -> x.layers(), 0);
    }

    private static void promise2ClearFreesAllPasses() {
        LayerBudgets x = new LayerBudgets();
        fillWithPasses(x, 16384);
        x.clear();
        x.block();
        due("2: passes are counted from 0 again", () -> x.pass(0, 1, 1), 1);
    }

    private static void promise3Block() {
        LayerBudgets x = new LayerBudgets();
        due("3: block", () -> x.block(), 0);
        due("3: block", () -> x.block(), 1);
        due("3: without passes", () -> x.step(1, NONE, 0), 0);
        x.pass(0, 2, 9);
        x.layer(2);
        due("3: layer before", () -> x.layers(), 1);
        due("3: block", () -> x.block(), 2);
        due("3: the layers go", () -> x.layers(), 0);
        dueThrow("3: the layer is gone", () -> x.cut(0, 0), INDEX);
        due("3: cuts begin at 0 again", () -> x.layer(0), 0);
        dueLayer("3", x, 0, 0, noThreshold(), 0, 0, 0);
    }

    /** Beyond 512 calls nothing is promised; the limit is named all the same, and holds. */
    private static void promise3Limit() {
        LayerBudgets x = new LayerBudgets();
        for (int b = 0; b < 1023; b++) {
            x.block();
        }
        due("3: block 1024", () -> x.block(), 1023);
        x.layer(0);
        dueThrow("3: block 1025", () -> x.block(), STATE);
        due("3: a throw keeps the layers", () -> x.layers(), 1);
    }

    private static void promise4Pass() {
        LayerBudgets x = with(passes(), passes());
        due("4: pass", () -> x.pass(0, 3, 10), 1);
        due("4: pass", () -> x.pass(0, 0, -10), 2);
        due("4: pass of another block", () -> x.pass(1, 1, 1), 1);
        x.layer(NONE);
        due("4: layer before", () -> x.layers(), 1);
        due("4: pass", () -> x.pass(1, 1, 1), 2);
        due("4: the layers go", () -> x.layers(), 0);
        due("4: cuts begin at 0 again", () -> x.layer(0), 0);
        dueLayer("4", x, 0, 0, noThreshold(), 0, 0);
    }

    private static void promise4WrongArguments() {
        LayerBudgets x = with(passes(5, 50));
        x.layer(5);
        dueThrow("4: block 1", () -> x.pass(1, 1, 1), ARGUMENT);
        dueThrow("4: block -1", () -> x.pass(-1, 1, 1), ARGUMENT);
        dueThrow("4: block least", () -> x.pass(Integer.MIN_VALUE, 1, 1), ARGUMENT);
        dueThrow("4: block most", () -> x.pass(Integer.MAX_VALUE, 1, 1), ARGUMENT);
        dueThrow("4: bytes -1", () -> x.pass(0, -1, 1), ARGUMENT);
        dueThrow("4: bytes least", () -> x.pass(0, Integer.MIN_VALUE, 1), ARGUMENT);
        dueThrow("4: gain above", () -> x.pass(0, 1, MOST_GAIN + 1), ARGUMENT);
        dueThrow("4: gain below", () -> x.pass(0, 1, -MOST_GAIN - 1), ARGUMENT);
        dueThrow("4: gain least", () -> x.pass(0, 1, Long.MIN_VALUE), ARGUMENT);
        dueThrow("4: gain most", () -> x.pass(0, 1, Long.MAX_VALUE), ARGUMENT);
        dueThrow("4: argument before state", () -> x.pass(0, 70000, MOST_GAIN + 1), ARGUMENT);
        due("4: a throw keeps the layers", () -> x.layers(), 1);
        dueSteps("4: a throw keeps the block", x, 0, new long[] {1, 5, 50});
        due("4: gain most of all", () -> x.pass(0, 1, MOST_GAIN), 2);
        due("4: gain least of all", () -> x.pass(0, 1, -MOST_GAIN), 3);
    }

    private static void promise4BlockLimits() {
        LayerBudgets x = with(passes(65534, 1), passes(), passes());
        x.layer(NONE);
        dueThrow("4: 65,536 bytes", () -> x.pass(0, 2, 1), STATE);
        dueThrow("4: most bytes", () -> x.pass(0, Integer.MAX_VALUE, 1), STATE);
        due("4: a throw keeps the layers", () -> x.layers(), 1);
        due("4: 65,535 bytes", () -> x.pass(0, 1, 1), 2);
        due("4: no bytes more", () -> x.pass(0, 0, 1), 3);
        dueThrow("4: a byte more", () -> x.pass(0, 1, 1), STATE);
        due("4: 65,535 bytes at once", () -> x.pass(1, 65535, 1), 1);
        for (int i = 0; i < 119; i++) {
            x.pass(2, 1, 1);
        }
        due("4: pass 120", () -> x.pass(2, 1, 1), 120);
        x.layer(NONE);
        dueThrow("4: pass 121", () -> x.pass(2, 0, 0), STATE);
        dueThrow("4: argument before state at pass 121", () -> x.pass(2, -1, 0), ARGUMENT);
        due("4: a throw keeps the layers", () -> x.layers(), 1);
        due("4: all of it", () -> x.total(0), 65535 + 65535 + 120);
    }

    private static void fillWithPasses(LayerBudgets x, int count) {
        int block = NONE;
        for (int i = 0; i < count; i++) {
            if (i % 100 == 0) {
                block = x.block();
            }
            x.pass(block, 1, 1);
        }
    }

    /** Beyond 512 calls nothing is promised; the limit is named all the same, and holds. */
    private static void promise4AllBlocksLimit() {
        LayerBudgets x = new LayerBudgets();
        fillWithPasses(x, 16383);
        due("4: pass 16,384 of all", () -> x.pass(163, 1, 1), 84);
        dueThrow("4: pass 16,385 of all", () -> x.pass(163, 1, 1), STATE);
        int empty = x.block();
        dueThrow("4: pass 16,385 of all in a new block", () -> x.pass(empty, 1, 1), STATE);
    }

    private static void promise5And6Steps() {
        dueSteps("5: no passes", with(passes()), 0);
        dueSteps("5: no gain", with(passes(3, 0, 2, -4)), 0);
        dueSteps("5: one pass", with(passes(3, 7)), 0, new long[] {1, 3, 7});
        dueSteps("5: falling slopes", with(passes(1, 9, 2, 8, 3, 3)), 0,
            new long[] {1, 1, 9}, new long[] {2, 2, 8}, new long[] {3, 3, 3});
        dueSteps("5: a steeper pass behind", with(passes(4, 100, 2, 30, 3, 90, 5, 20)), 0,
            new long[] {1, 4, 100}, new long[] {3, 5, 120}, new long[] {4, 5, 20});
        dueSteps("5: equal slopes, the greatest k", with(passes(2, 10, 1, 5, 3, 15)), 0, new long[] {3, 6, 30});
        dueSteps("5: a pass of nothing goes with it", with(passes(2, 10, 0, 0)), 0, new long[] {2, 2, 10});
        dueSteps("5: not above the gain before", with(passes(2, 10, 5, 0, 3, -1)), 0, new long[] {1, 2, 10});
        dueSteps("5: over a loss", with(passes(2, 10, 1, -4, 1, 5)), 0, new long[] {1, 2, 10}, new long[] {3, 2, 1});
        dueSteps("5: a loss first", with(passes(2, -10, 2, 14)), 0, new long[] {2, 4, 4});
        dueSteps("5: all in one at last", with(passes(3, 9, 3, 6, 3, 3, 3, 60)), 0, new long[] {4, 12, 78});
    }

    private static void promise5And6StepsWithoutBytes() {
        dueSteps("5: no bytes", with(passes(0, 7, 0, 3, 1, -100, 2, 300)), 0, new long[] {2, 0, 10}, new long[] {4, 3, 200});
        dueSteps("5: no bytes, the greatest k though it gains less", with(passes(0, 7, 0, -3, 5, 2)), 0,
            new long[] {2, 0, 4}, new long[] {3, 5, 2});
        dueSteps("5: no bytes, none that gains nothing", with(passes(0, 7, 0, -7, 1, 8)), 0,
            new long[] {1, 0, 7}, new long[] {3, 1, 1});
        dueSteps("5: no bytes goes before any slope", with(passes(0, 1, 1, MOST_GAIN)), 0,
            new long[] {1, 0, 1}, new long[] {2, 1, MOST_GAIN});
        dueSteps("5: no bytes behind bytes", with(passes(4, 8, 0, 5)), 0, new long[] {2, 4, 13});
    }

    private static void promise5And6GreatGains() {
        LayerBudgets x = new LayerBudgets();
        x.block();
        for (int i = 0; i < 119; i++) {
            x.pass(0, 0, -MOST_GAIN);
        }
        x.pass(0, 0, MOST_GAIN);
        dueSteps("6: only losses", x, 0);
        LayerBudgets y = new LayerBudgets();
        y.block();
        for (int i = 0; i < 119; i++) {
            y.pass(0, 546, MOST_GAIN);
        }
        y.pass(0, 561, MOST_GAIN);
        dueSteps("6: the greatest products", y, 0,
            new long[] {119, 64974, 119 * MOST_GAIN}, new long[] {120, 561, MOST_GAIN});
    }

    private static void promise5And6WrongInputs() {
        LayerBudgets x = with(passes(2, 10, 5, 5), passes());
        for (int w : new int[] {0, 1, 2, -1, Integer.MIN_VALUE, Integer.MAX_VALUE}) {
            due("5: how many, w = " + w, () -> x.step(0, NONE, w), 2);
            due("5: how many of none, w = " + w, () -> x.step(1, NONE, w), 0);
            dueThrow("5: how many of no block, w = " + w, () -> x.step(2, NONE, w), ARGUMENT);
        }
        for (int block : new int[] {2, -1, Integer.MIN_VALUE, Integer.MAX_VALUE}) {
            dueThrow("5: block " + block, () -> x.step(block, 0, 0), ARGUMENT);
            dueThrow("5: block and step, " + block, () -> x.step(block, 9, 0), ARGUMENT);
            dueThrow("6: block " + block, () -> x.gain(block, 0), ARGUMENT);
            dueThrow("6: block and step, " + block, () -> x.gain(block, 9), ARGUMENT);
        }
        for (int w : new int[] {2, -1, Integer.MIN_VALUE, Integer.MAX_VALUE}) {
            dueThrow("5: w " + w, () -> x.step(0, 0, w), ARGUMENT);
            dueThrow("5: w and step, " + w, () -> x.step(0, 9, w), ARGUMENT);
        }
        for (int i : new int[] {2, -2, Integer.MIN_VALUE, Integer.MAX_VALUE}) {
            dueThrow("5: step " + i, () -> x.step(0, i, 0), INDEX);
            dueThrow("5: step " + i + ", w = 1", () -> x.step(0, i, 1), INDEX);
            dueThrow("6: step " + i, () -> x.gain(0, i), INDEX);
        }
        dueThrow("6: NONE is no step", () -> x.gain(0, NONE), INDEX);
        dueThrow("6: no steps", () -> x.gain(1, 0), INDEX);
    }

    private static void promise7To11Layers() {
        LayerBudgets x = with(passes(4, 100, 2, 30, 3, 90, 5, 20), passes(3, 90, 6, 60, 0, 0, 2, -5));
        due("7: below the first slope", () -> x.layer(2), 0);
        due("7: just the first slope", () -> x.layer(3), 3);
        due("7: a budget is of all layers together", () -> x.layer(11), 7);
        due("7: less than there is", () -> x.layer(0), 7);
        due("7: all steps", () -> x.layer(Integer.MAX_VALUE), 23);
        due("7: without budget", () -> x.layer(NONE), 25);
        due("7: behind one without budget", () -> x.layer(Integer.MAX_VALUE), 25);
        due("7: less behind one without budget", () -> x.layer(1), 25);
        due("7: without budget again", () -> x.layer(NONE), 25);
        due("8: layers", () -> x.layers(), 9);
        dueLayer("layer 0", x, 0, 0, noThreshold(), 0, 0);
        dueLayer("layer 1", x, 1, 3, threshold(90, 3), 0, 1);
        dueLayer("layer 2", x, 2, 7, threshold(100, 4), 1, 1);
        dueLayer("layer 3", x, 3, 7, noThreshold(), 1, 1);
        dueLayer("layer 4", x, 4, 23, threshold(20, 5), 4, 3);
        for (int layer = 5; layer < 9; layer++) {
            dueLayer("layer " + layer, x, layer, 25, noThreshold(), 4, 4);
        }
    }

    private static void promise7NothingIsLeftBehindAllPasses() {
        LayerBudgets x = with(passes(2, 10, 4, 4), passes(3, 9, 1, -1));
        due("7: without budget first", () -> x.layer(NONE), 10);
        due("7: behind it", () -> x.layer(100), 10);
        dueLayer("7: all passes", x, 0, 10, noThreshold(), 2, 2);
        dueLayer("7: all passes still", x, 1, 10, noThreshold(), 2, 2);
    }

    private static void promises3And4StepsCanBeTakenAgain() {
        LayerBudgets x = with(passes(2, 10), passes(3, 9));
        x.layer(5);
        x.pass(1, 1, 1);
        due("4: taken again behind a pass", () -> x.layer(5), 5);
        dueLayer("4: taken again", x, 0, 5, threshold(9, 3), 1, 1);
        x.block();
        due("3: taken again behind a block", () -> x.layer(2), 2);
        dueLayer("3: taken again", x, 0, 2, threshold(10, 2), 1, 0, 0);
    }

    private static void promise7SmallerSlopesStayOut() {
        LayerBudgets x = with(passes(10, 100), passes(1, 5));
        due("7: nothing of a smaller slope that would fit", () -> x.layer(9), 0);
        dueLayer("7: it stays out", x, 0, 0, noThreshold(), 0, 0);
        due("7: until the greater one fits", () -> x.layer(11), 11);
        dueLayer("7: both", x, 1, 11, threshold(5, 1), 1, 1);
    }

    private static void promise7EqualSlopesTogether() {
        LayerBudgets x = with(passes(6, 30, 1, 1), passes(2, 10), passes(4, 20));
        due("7: not some of a slope", () -> x.layer(11), 0);
        due("7: all of a slope", () -> x.layer(12), 12);
        dueLayer("11: of the lowest block", x, 1, 12, threshold(30, 6), 1, 1, 1);
        due("7: the rest", () -> x.layer(13), 13);
        dueLayer("11: of this layer alone", x, 2, 13, threshold(1, 1), 2, 1, 1);
    }

    private static void promise7WithoutBytes() {
        LayerBudgets x = with(passes(2, 10), passes(0, 3), passes(0, 8, 1, 1));
        due("7: what needs no bytes", () -> x.layer(0), 0);
        dueLayer("11: without bytes", x, 0, 0, threshold(3, 0), 0, 1, 1);
    }

    private static void promise7GreatNumbers() {
        LayerBudgets x = with(passes(65535, MOST_GAIN), passes(65534, MOST_GAIN), passes(65535, MOST_GAIN - 1));
        due("7: slopes hardly apart", () -> x.layer(65535), 65534);
        dueLayer("7: the steepest", x, 0, 65534, threshold(MOST_GAIN, 65534), 0, 1, 0);
        due("7: the next", () -> x.layer(196603), 131069);
        dueLayer("7: the next", x, 1, 131069, threshold(MOST_GAIN, 65535), 1, 1, 0);
        due("7: the last", () -> x.layer(196604), 196604);
    }

    private static void promise7WrongInputs() {
        LayerBudgets x = with(passes(2, 10));
        dueThrow("7: budget -2", () -> x.layer(-2), ARGUMENT);
        dueThrow("7: budget least", () -> x.layer(Integer.MIN_VALUE), ARGUMENT);
        due("8: a throw makes no layer", () -> x.layers(), 0);
        for (int layer = 0; layer < 63; layer++) {
            x.layer(layer % 2);
        }
        due("7: layer 64", () -> x.layer(2), 2);
        dueThrow("7: layer 65", () -> x.layer(2), STATE);
        dueThrow("7: layer 65 without budget", () -> x.layer(NONE), STATE);
        dueThrow("7: argument before state", () -> x.layer(-2), ARGUMENT);
        due("8: layers", () -> x.layers(), 64);
        dueLayer("7: the last one", x, 63, 2, threshold(10, 2), 1);
        dueLayer("7: the one before", x, 62, 0, noThreshold(), 0);
    }

    private static void promise7WithoutBlocks() {
        LayerBudgets x = new LayerBudgets();
        due("7: no blocks", () -> x.layer(5), 0);
        due("7: no blocks, without budget", () -> x.layer(NONE), 0);
        due("8: no blocks", () -> x.layers(), 2);
        dueLayer("7: no blocks", x, 0, 0, noThreshold());
        dueLayer("7: no blocks", x, 1, 0, noThreshold());
        dueThrow("9: no blocks", () -> x.cut(0, 0), ARGUMENT);
    }

    private static void promise9To11WrongInputs() {
        LayerBudgets x = with(passes(2, 10), passes(3, 1));
        x.layer(2);
        for (int layer : new int[] {1, -1, Integer.MIN_VALUE, Integer.MAX_VALUE}) {
            dueThrow("9: layer " + layer, () -> x.cut(layer, 0), INDEX);
            dueThrow("9: layer and block, " + layer, () -> x.cut(layer, 2), ARGUMENT);
            dueThrow("10: layer " + layer, () -> x.total(layer), INDEX);
            dueThrow("11: layer " + layer, () -> x.threshold(layer, 0), INDEX);
            dueThrow("11: layer " + layer + ", w = 1", () -> x.threshold(layer, 1), INDEX);
            dueThrow("11: layer and w, " + layer, () -> x.threshold(layer, 2), ARGUMENT);
        }
        for (int block : new int[] {2, -1, Integer.MIN_VALUE, Integer.MAX_VALUE}) {
            dueThrow("9: block " + block, () -> x.cut(0, block), ARGUMENT);
        }
        for (int w : new int[] {2, -1, Integer.MIN_VALUE, Integer.MAX_VALUE}) {
            dueThrow("11: w " + w, () -> x.threshold(0, w), ARGUMENT);
        }
        dueLayer("9: all as before", x, 0, 2, threshold(10, 2), 1, 0);
    }

    public static void main(String[] args) {
        promise1NewObject();
        promise2Clear();
        promise2ClearFreesAllPasses();
        promise3Block();
        promise3Limit();
        promise4Pass();
        promise4WrongArguments();
        promise4BlockLimits();
        promise4AllBlocksLimit();
        promise5And6Steps();
        promise5And6StepsWithoutBytes();
        promise5And6GreatGains();
        promise5And6WrongInputs();
        promise7To11Layers();
        promise7NothingIsLeftBehindAllPasses();
        promises3And4StepsCanBeTakenAgain();
        promise7SmallerSlopesStayOut();
        promise7EqualSlopesTogether();
        promise7WithoutBytes();
        promise7GreatNumbers();
        promise7WrongInputs();
        promise7WithoutBlocks();
        promise9To11WrongInputs();
        System.out.println(wrong == 0 ? "all answers are as due" : wrong + " answers are not as due");
        if (wrong != 0) {
            System.exit(1);
        }
    }
}
