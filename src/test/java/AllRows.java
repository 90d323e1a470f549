import java.util.Arrays;

/** The plan of a pan by trying every row of blows to its end, and nothing cleverer. */
final class AllRows {
    private final int[] tones;
    private final int[] blows;
    private final boolean[] sunk;

    private AllRows(int[] tones, int[] blows, boolean[] sunk) {
        this.tones = tones.clone();
        this.blows = blows.clone();
        this.sunk = sunk.clone();
    }

    static int[] planOf(Panyard x, int pan) {
        int[] cents = new int[4];
        int[] blows = new int[4];
        boolean[] sunk = new boolean[4];
        for (int f = 0; f < 4; f++) {
            cents[f] = x.field(pan, f, 1);
            blows[f] = x.field(pan, f, 2);
            sunk[f] = x.field(pan, f, 3) == 1;
        }
        return planOf(cents, blows, sunk);
    }

    /** The row of the plan, null if there is none. */
    static int[] planOf(int[] cents, int[] blows, boolean[] sunk) {
        for (int length = 0; length <= 3; length++) {
            for (int code = 0; code < 1 << 5 * length; code++) {
                int[] row = new int[length];
                for (int place = 0; place < length; place++) {
                    row[place] = code >> 5 * (length - 1 - place) & 31;
                }
                if (new AllRows(cents, blows, sunk).isTunedBy(row)) {
                    return row;
                }
            }
        }
        return null;
    }

    private boolean isTunedBy(int[] row) {
        for (int number : row) {
            int field = number >> 3;
            int force = (number >> 1 & 3) + 1;
            boolean isSink = (number & 1) == 1;
            if (blows[field] > 6 || !isSink && sunk[field]) {
                return false;
            }
            blows[field]++;
            sunk[field] = sunk[field] || isSink;
            tones[field] = isSink ? tones[field] - 6 * force : tones[field] + 4 * force;
            for (int beside : new int[] {field ^ 1, 3 - field}) {
                tones[beside] = isSink ? tones[beside] + force : tones[beside] - force;
            }
        }
        return Arrays.stream(tones).allMatch(t -> -5 <= t && t <= 5)
                && Arrays.stream(blows).allMatch(b -> b <= 6);
    }
}
