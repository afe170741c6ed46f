import java.util.ArrayList;

/**
 * Says how many of each block's passes go into which layer, when each layer may have so many bytes: always those
 * that gain the most for a byte, as far as a block can be cut there.
 */
public final class LayerBudgets {
    public static final int NONE = -1;

    private static final int MOST_BLOCKS = 1024;
    private static final int MOST_PASSES = 16384;
    private static final int MOST_LAYERS = 64;
    private static final int MOST_BLOCK_PASSES = 120;
    private static final int MOST_BLOCK_BYTES = 65535;
    private static final long MOST_GAIN = 1L << 38;

    private final ArrayList<Block> blockList;
    private final ArrayList<Layer> layerList;
    private int passCount;
    private int takenBytes;

    public LayerBudgets() {
        blockList = new ArrayList<Block>();
        layerList = new ArrayList<Layer>();
    }

    public void clear() {
        dropLayers();
        blockList.clear();
        passCount = 0;
    }

    public int block() throws IllegalStateException {
        if (blockList.size() >= MOST_BLOCKS) {
            throw new IllegalStateException("there are 1024 blocks");
        }
        dropLayers();
        blockList.add(new Block());
        return blockList.size() - 1;
    }

    public int pass(int block, int bytes, long gain) throws IllegalArgumentException, IllegalStateException {
        if (!hasBlock(block)) {
            throw new IllegalArgumentException("no such block");
        }
        if (bytes < 0) {
            throw new IllegalArgumentException("bytes below 0");
        }
        if (gain < -MOST_GAIN || gain > MOST_GAIN) {
            throw new IllegalArgumentException("gain not within -2^38 .. 2^38");
        }
        Block longer = blockList.get(block);
        if (passCount >= MOST_PASSES || !longer.hasRoomFor(bytes)) {
            throw new IllegalStateException("too many passes or bytes");
        }
        dropLayers();
        passCount++;
        longer.append(bytes, gain);
        return longer.passes;
    }

    public int step(int block, int i, int w) throws IllegalArgumentException, IndexOutOfBoundsException {
        if (!hasBlock(block)) {
            throw new IllegalArgumentException("no such block");
        }
        Block asked = blockList.get(block);
        if (i == NONE) {
            return asked.steps;
        }
        if (w != 0 && w != 1) {
            throw new IllegalArgumentException("no such w");
        }
        if (!asked.hasStep(i)) {
            throw new IndexOutOfBoundsException("no such step");
        }
        return w == 0 ? asked.stepEnd(i) : asked.stepBytes(i);
    }

    public long gain(int block, int i) throws IllegalArgumentException, IndexOutOfBoundsException {
        if (!hasBlock(block)) {
            throw new IllegalArgumentException("no such block");
        }
        Block asked = blockList.get(block);
        if (!asked.hasStep(i)) {
            throw new IndexOutOfBoundsException("no such step");
        }
        return asked.stepGain(i);
    }

    public int layer(int budget) throws IllegalArgumentException, IllegalStateException {
        if (budget < NONE) {
            throw new IllegalArgumentException("budget below NONE");
        }
        if (layerList.size() >= MOST_LAYERS) {
            throw new IllegalStateException("there are 64 layers");
        }
        Layer made = new Layer(blockList.size());
        if (budget == NONE) {
            takeAllPasses();
        } else {
            takeSteepestSteps(budget, made);
        }
        recordCuts(made);
        layerList.add(made);
        return made.bytes;
    }

    public int layers() {
        return layerList.size();
    }

    public int cut(int layer, int block) throws IllegalArgumentException, IndexOutOfBoundsException {
        if (!hasBlock(block)) {
            throw new IllegalArgumentException("no such block");
        }
        if (!hasLayer(layer)) {
            throw new IndexOutOfBoundsException("no such layer");
        }
        return layerList.get(layer).cuts[block];
    }

    public int total(int layer) throws IndexOutOfBoundsException {
        if (!hasLayer(layer)) {
            throw new IndexOutOfBoundsException("no such layer");
        }
        return layerList.get(layer).bytes;
    }

    public long threshold(int layer, int w) throws IllegalArgumentException, IndexOutOfBoundsException {
        if (w != 0 && w != 1) {
            throw new IllegalArgumentException("no such w");
        }
        if (!hasLayer(layer)) {
            throw new IndexOutOfBoundsException("no such layer");
        }
        Layer asked = layerList.get(layer);
        return w == 0 ? asked.thresholdGain : asked.thresholdBytes;
    }

    private boolean hasBlock(int number) {
        return number >= 0 && number < blockList.size();
    }

    private boolean hasLayer(int number) {
        return number >= 0 && number < layerList.size();
    }

    private void dropLayers() {
        if (layerList.isEmpty()) {
            return;
        }
        layerList.clear();
        takenBytes = 0;
        for (int b = 0; b < blockList.size(); b++) {
            blockList.get(b).takeNothing();
        }
    }

    private void takeAllPasses() {
        takenBytes = 0;
        for (int b = 0; b < blockList.size(); b++) {
            Block whole = blockList.get(b);
            whole.takeEverything();
            takenBytes += whole.allBytes();
        }
    }

    private void takeSteepestSteps(int budget, Layer made) {
        // Each round takes at least one step, and there are no more steps than passes.
        for (int round = 0; round < passCount; round++) {
            int steepest = steepestBlock();
            if (steepest == NONE) {
                return;
            }
            long slopeGain = blockList.get(steepest).nextGain();
            int slopeBytes = blockList.get(steepest).nextBytes();
            int more = bytesOfSlope(slopeGain, slopeBytes);
            if (takenBytes + more > budget) {
                return;
            }
            takeSlope(slopeGain, slopeBytes);
            takenBytes += more;
            made.thresholdGain = slopeGain;
            made.thresholdBytes = slopeBytes;
        }
    }

    /**
     * The lowest block whose next step has the greatest slope of all steps not yet taken. Looking at the next steps
     * is enough because the slopes of a block's steps fall from each one to the one behind it.
     */
    private int steepestBlock() {
        int steepest = NONE;
        long bestGain = 0;
        int bestBytes = 0;
        for (int b = 0; b < blockList.size(); b++) {
            Block other = blockList.get(b);
            if (!other.hasNext()) {
                continue;
            }
            long otherGain = other.nextGain();
            int otherBytes = other.nextBytes();
            if (steepest == NONE || compareSlopes(otherGain, otherBytes, bestGain, bestBytes) > 0) {
                steepest = b;
                bestGain = otherGain;
                bestBytes = otherBytes;
            }
        }
        return steepest;
    }

    private int bytesOfSlope(long slopeGain, int slopeBytes) {
        int sum = 0;
        for (int b = 0; b < blockList.size(); b++) {
            Block other = blockList.get(b);
            if (other.nextHasSlope(slopeGain, slopeBytes)) {
                sum += other.nextBytes();
            }
        }
        return sum;
    }

    private void takeSlope(long slopeGain, int slopeBytes) {
        for (int b = 0; b < blockList.size(); b++) {
            Block other = blockList.get(b);
            if (other.nextHasSlope(slopeGain, slopeBytes)) {
                other.takeNext();
            }
        }
    }

    private void recordCuts(Layer made) {
        for (int b = 0; b < blockList.size() && b < made.cuts.length; b++) {
            made.cuts[b] = blockList.get(b).lastCut;
        }
        made.bytes = takenBytes;
    }

    /**
     * Compares two slopes whose gains are above 0. The products stay below 2^62 (gains below 2^45, bytes below
     * 2^16), and with 0 bytes they put a slope beyond all others and equal to its like, as it should be.
     */
    private static int compareSlopes(long oneGain, int oneBytes, long otherGain, int otherBytes) {
        return Long.compare(oneGain * otherBytes, otherGain * oneBytes);
    }

    private static final class Block {
        private final int[] bytesUpTo;
        private final long[] gainUpTo;
        /** Step s goes from corners[s] passes to corners[s + 1] passes. */
        private final int[] corners;
        private int passes;
        private int steps;
        private int stepsTaken;
        private int lastCut;

        private Block() {
            bytesUpTo = new int[MOST_BLOCK_PASSES + 1];
            gainUpTo = new long[MOST_BLOCK_PASSES + 1];
            corners = new int[MOST_BLOCK_PASSES + 1];
        }

        private boolean hasRoomFor(int bytes) {
            return passes < MOST_BLOCK_PASSES && bytes <= MOST_BLOCK_BYTES - bytesUpTo[passes];
        }

        private int allBytes() {
            return bytesUpTo[passes];
        }

        private void append(int bytes, long gained) {
            bytesUpTo[passes + 1] = bytesUpTo[passes] + bytes;
            gainUpTo[passes + 1] = gainUpTo[passes] + gained;
            passes++;
            renewSteps();
        }

        /**
         * Steps that begin before the new pass keep their ends unless the new pass is a better one. If it is not for
         * some step, then it is not for those before that one either, as they are steeper: so the search goes from
         * the last step backwards and ends at the first that stays.
         */
        private void renewSteps() {
            int kept = steps;
            while (kept > 0 && newestOvertakes(kept - 1)) {
                kept--;
            }
            if (gainUpTo[passes] > gainUpTo[corners[kept]]) {
                kept++;
                corners[kept] = passes;
            }
            steps = kept;
        }

        private boolean newestOvertakes(int s) {
            int begin = corners[s];
            long newGain = gainUpTo[passes] - gainUpTo[begin];
            int newBytes = bytesUpTo[passes] - bytesUpTo[begin];
            return newGain > 0 && compareSlopes(newGain, newBytes, stepGain(s), stepBytes(s)) >= 0;
        }

        private boolean hasStep(int s) {
            return s >= 0 && s < steps;
        }

        private int stepEnd(int s) {
            return corners[s + 1];
        }

        private int stepBytes(int s) {
            return bytesUpTo[corners[s + 1]] - bytesUpTo[corners[s]];
        }

        private long stepGain(int s) {
            return gainUpTo[corners[s + 1]] - gainUpTo[corners[s]];
        }

        private boolean hasNext() {
            return stepsTaken < steps;
        }

        private int nextBytes() {
            return stepBytes(stepsTaken);
        }

        private long nextGain() {
            return stepGain(stepsTaken);
        }

        private boolean nextHasSlope(long slopeGain, int slopeBytes) {
            return hasNext() && compareSlopes(nextGain(), nextBytes(), slopeGain, slopeBytes) == 0;
        }

        private void takeNext() {
            lastCut = stepEnd(stepsTaken);
            stepsTaken++;
        }

        private void takeEverything() {
            lastCut = passes;
            stepsTaken = steps;
        }

        private void takeNothing() {
            lastCut = 0;
            stepsTaken = 0;
        }
    }

    private static final class Layer {
        private final int[] cuts;
        private int bytes;
        private long thresholdGain;
        private int thresholdBytes;

        private Layer(int blocks) {
            cuts = new int[blocks];
            thresholdGain = NONE;
            thresholdBytes = NONE;
        }
    }
}
