import java.math.BigInteger;
import java.util.ArrayList;
import java.util.List;
import java.util.Random;

/** Runs of calls, each answer compared with that of a slow program that follows the document word for word. */
public final class ReferenceTest {
    private static final int RUNS = 3000;
    private static final int MOST_CALLS = 512;
    private static final int NONE = -1;
    private static final long MOST_GAIN = 274877906944L;

    /** A step, its slope as gain for bytes. */
    private record Step(int block, int begin, int end, long bytes, long gain) {
        int compareSlope(Step other) {
            if (bytes == 0 || other.bytes == 0) {
                return Boolean.compare(bytes == 0, other.bytes == 0);
            }
            BigInteger mine = BigInteger.valueOf(gain).multiply(BigInteger.valueOf(other.bytes));
            return mine.compareTo(BigInteger.valueOf(other.gain).multiply(BigInteger.valueOf(bytes)));
        }
    }

    private record Made(int[] cuts, long total, Step threshold) {
    }

    /** The document's words, without a thought of speed. */
    private static final class Reference {
        private final List<List<long[]>> blocks = new ArrayList<>();
        private final List<Made> layers = new ArrayList<>();

        long sum(int block, int passes, int what) {
            long sum = 0;
            for (int k = 0; k < passes; k++) {
                sum += blocks.get(block).get(k)[what];
            }
            return sum;
        }

        List<Step> steps(int block) {
            List<Step> steps = new ArrayList<>();
            Step next = stepFrom(block, 0);
            while (next != null) {
                steps.add(next);
                next = stepFrom(block, next.end);
            }
            return steps;
        }

        Step stepFrom(int block, int j) {
            Step best = null;
            for (int k = j + 1; k <= blocks.get(block).size(); k++) {
                long gain = sum(block, k, 1) - sum(block, j, 1);
                Step tried = new Step(block, j, k, sum(block, k, 0) - sum(block, j, 0), gain);
                if (gain > 0 && (best == null || tried.compareSlope(best) >= 0)) {
                    best = tried;
                }
            }
            return best;
        }

        long bytesUpTo(int[] cuts) {
            long sum = 0;
            for (int b = 0; b < cuts.length; b++) {
                sum += sum(b, cuts[b], 0);
            }
            return sum;
        }

        Made madeWith(int budget) {
            int[] cuts = layers.isEmpty() ? new int[blocks.size()] : layers.get(layers.size() - 1).cuts.clone();
            if (budget == NONE) {
                for (int b = 0; b < cuts.length; b++) {
                    cuts[b] = blocks.get(b).size();
                }
                return new Made(cuts, bytesUpTo(cuts), null);
            }
            List<Step> open = new ArrayList<>();
            for (int b = 0; b < cuts.length; b++) {
                for (Step step : steps(b)) {
                    if (step.begin >= cuts[b]) {
                        open.add(step);
                    }
                }
            }
            open.sort((one, other) -> other.compareSlope(one) != 0 ? other.compareSlope(one) : one.block - other.block);
            Step threshold = null;
            int at = 0;
            while (at < open.size()) {
                int[] tried = cuts.clone();
                int behind = at;
                while (behind < open.size() && open.get(behind).compareSlope(open.get(at)) == 0) {
                    tried[open.get(behind).block] = Math.max(tried[open.get(behind).block], open.get(behind).end);
                    behind++;
                }
                if (bytesUpTo(tried) > budget) {
                    break;
                }
                cuts = tried;
                threshold = open.get(at);
                at = behind;
            }
            return new Made(cuts, bytesUpTo(cuts), threshold);
        }

        boolean hasBlock(int block) {
            return block >= 0 && block < blocks.size();
        }

        boolean hasLayer(int layer) {
            return layer >= 0 && layer < layers.size();
        }

        String block() {
            layers.clear();
            blocks.add(new ArrayList<>());
            return "" + (blocks.size() - 1);
        }

        String clear() {
            layers.clear();
            blocks.clear();
            return "0";
        }

        String pass(int block, int bytes, long gain) {
            if (!hasBlock(block) || bytes < 0 || gain < -MOST_GAIN || gain > MOST_GAIN) {
                return "IllegalArgumentException";
            }
            int passes = blocks.get(block).size();
            if (passes == 120 || sum(block, passes, 0) + bytes > 65535) {
                return "IllegalStateException";
            }
            layers.clear();
            blocks.get(block).add(new long[] {bytes, gain});
            return "" + (passes + 1);
        }

        String step(int block, int i, int w) {
            if (!hasBlock(block) || i != NONE && w != 0 && w != 1) {
                return "IllegalArgumentException";
            }
            List<Step> steps = steps(block);
            if (i == NONE) {
                return "" + steps.size();
            }
            if (i < 0 || i >= steps.size()) {
                return "IndexOutOfBoundsException";
            }
            return "" + (w == 0 ? steps.get(i).end : steps.get(i).bytes);
        }

        String gain(int block, int i) {
            if (!hasBlock(block)) {
                return "IllegalArgumentException";
            }
            List<Step> steps = steps(block);
            return i < 0 || i >= steps.size() ? "IndexOutOfBoundsException" : "" + steps.get(i).gain;
        }

        String layer(int budget) {
            if (budget < NONE) {
                return "IllegalArgumentException";
            }
            if (layers.size() == 64) {
                return "IllegalStateException";
            }
            layers.add(madeWith(budget));
            return "" + layers.get(layers.size() - 1).total;
        }

        String cut(int layer, int block) {
            if (!hasBlock(block)) {
                return "IllegalArgumentException";
            }
            return hasLayer(layer) ? "" + layers.get(layer).cuts[block] : "IndexOutOfBoundsException";
        }

        String total(int layer) {
            return hasLayer(layer) ? "" + layers.get(layer).total : "IndexOutOfBoundsException";
        }

        String threshold(int layer, int w) {
            if (w != 0 && w != 1) {
                return "IllegalArgumentException";
            }
            if (!hasLayer(layer)) {
                return "IndexOutOfBoundsException";
            }
            Step threshold = layers.get(layer).threshold;
            return "" + (threshold == null ? NONE : w == 0 ? threshold.gain : threshold.bytes);
        }
    }

    private interface Call {
        long answer();
    }

    private static String answered(Call call) {
        try {
            return "" + call.answer();
        } catch (RuntimeException e) {
            return thrown(e);
        }
    }

    /** What the program does not throw itself, but the machine or the library in it, is never due. */
    private static String thrown(RuntimeException e) {
        String by = e.getStackTrace()[0].getClassName();
        String name = e.getClass().getSimpleName();
        return by.equals("LayerBudgets") ? name : name + " of " + by;
    }

    private static int wrong = 0;

    private static void due(int run, String what, Call call, String want) {
        String got = answered(call);
        if (!got.equals(want)) {
            wrong++;
            System.out.println("run " + run + ": " + what + " answered " + got + ", due is " + want);
        }
    }

    /** One run, which calls the program and the reference alike; small numbers make equal slopes common. */
    private static final class Run {
        private final int number;
        private final Random random;
        private final int mostBlocks;
        private final int mostBytes;
        private final long mostGain;
        private final int lowestGain;
        private final LayerBudgets x = new LayerBudgets();
        private final Reference reference = new Reference();

        Run(int number) {
            this.number = number;
            random = new Random(number);
            mostBlocks = 1 + random.nextInt(random.nextInt(4) == 0 ? 30 : 5);
            mostBytes = new int[] {2, 4, 10, 600, 20000}[random.nextInt(5)];
            mostGain = new long[] {3, 10, 1000, MOST_GAIN}[random.nextInt(4)];
            lowestGain = random.nextInt(3);
        }

        int about(int size) {
            int kind = random.nextInt(40);
            return kind == 0 ? NONE : kind == 1 ? size : kind == 2 ? -2 : size == 0 ? 0 : random.nextInt(size);
        }

        int which() {
            return random.nextInt(20) == 0 ? random.nextInt(5) - 2 : random.nextInt(2);
        }

        long someGain() {
            if (random.nextInt(100) == 0) {
                long beyond = MOST_GAIN + random.nextInt(2);
                return random.nextBoolean() ? beyond : -beyond;
            }
            long gain = (long) (random.nextDouble() * (mostGain + 1));
            return lowestGain == 0 || random.nextInt(lowestGain + 1) == 0 ? gain : -gain / (3 - lowestGain);
        }

        void block() {
            due(number, "block()", x::block, reference.block());
        }

        void pass() {
            int block = about(reference.blocks.size());
            int bytes = random.nextInt(80) == 0 ? -1 : random.nextInt(mostBytes + 1);
            long gain = someGain();
            due(number, "pass(" + block + ", " + bytes + ", " + gain + ")", () -> x.pass(block, bytes, gain),
                reference.pass(block, bytes, gain));
        }

        void layer() {
            int all = 0;
            for (int b = 0; b < reference.blocks.size(); b++) {
                all += (int) reference.sum(b, reference.blocks.get(b).size(), 0);
            }
            int kind = random.nextInt(20);
            int budget = kind == 0 ? NONE : kind == 1 ? -2 : kind == 2 ? Integer.MAX_VALUE : random.nextInt(all + 3);
            due(number, "layer(" + budget + ")", () -> x.layer(budget), reference.layer(budget));
        }

        void ask() {
            int block = about(reference.blocks.size());
            int layer = about(reference.layers.size());
            int i = random.nextInt(10) == 0 ? NONE : about(reference.hasBlock(block) ? reference.steps(block).size() : 3);
            int w = which();
            switch (random.nextInt(6)) {
                case 0 -> due(number, "step(" + block + ", " + i + ", " + w + ")", () -> x.step(block, i, w),
                    reference.step(block, i, w));
                case 1 -> due(number, "gain(" + block + ", " + i + ")", () -> x.gain(block, i), reference.gain(block, i));
                case 2 -> due(number, "layers()", x::layers, "" + reference.layers.size());
                case 3 -> due(number, "cut(" + layer + ", " + block + ")", () -> x.cut(layer, block),
                    reference.cut(layer, block));
                case 4 -> due(number, "total(" + layer + ")", () -> x.total(layer), reference.total(layer));
                default -> due(number, "threshold(" + layer + ", " + w + ")", () -> x.threshold(layer, w),
                    reference.threshold(layer, w));
            }
        }

        void clear() {
            x.clear();
            reference.clear();
        }

        void call(int at, int building) {
            int kind = random.nextInt(1000);
            if (kind < 2) {
                clear();
            } else if (reference.blocks.size() < mostBlocks && random.nextInt(4) == 0) {
                block();
            } else if (at < building ? kind < 900 : kind < 20) {
                pass();
            } else if (kind < 960 && random.nextInt(4) == 0) {
                layer();
            } else {
                ask();
            }
        }

        void all() {
            int calls = 1 + random.nextInt(random.nextBoolean() ? MOST_CALLS : 60);
            int building = random.nextInt(calls);
            for (int at = 0; at < calls; at++) {
                call(at, building);
            }
        }
    }

    public static void main(String[] args) {
        for (int number = 0; number < RUNS; number++) {
            new Run(number).all();
        }
        System.out.println(wrong == 0 ? "all answers are as due" : wrong + " answers are not as due");
        if (wrong != 0) {
            System.exit(1);
        }
    }
}
