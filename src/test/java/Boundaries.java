/** What the tests of single sentences have in common: heaps made, answers compared, pictures of all. */
abstract class Boundaries {
    static final int NONE = -1;
    static final int CANNOT = -2;
    static final int MIN = Integer.MIN_VALUE;
    static final int MAX = Integer.MAX_VALUE;

    /** Calls that lead a new object somewhere. */
    interface Way {
        void go(MasterHeap x);
    }

    /** A call and its answer; a boolean counts 1 or 0. */
    interface Call {
        int of(MasterHeap x);
    }

    static int passed = 0;
    static int failed = 0;
    private static String test = "";

    private static Way lastPictured = null;
    private static String lastPicture = "";

    static void begin(String name) {
        test = name;
    }

    static void same(String call, int got, int want) {
        if (got == want) {
            passed++;
        } else {
            failed++;
            System.out.println(test + ": " + call + " answered " + got + ", due is " + want);
        }
    }

    static void same(String call, boolean got, boolean want) {
        same(call, bit(got), bit(want));
    }

    static int bit(boolean is) {
        return is ? 1 : 0;
    }

    static MasterHeap made(Way way) {
        MasterHeap x = new MasterHeap();
        way.go(x);
        return x;
    }

    /** A heap with a block for each of the sizes, from cell 0 on, all of cost 0. */
    static MasterHeap heap(int size, int most, int... sizes) {
        MasterHeap x = new MasterHeap();
        lay(x, size, most, sizes);
        return x;
    }

    static void lay(MasterHeap x, int size, int most, int... sizes) {
        x.start(size, most);
        for (int each : sizes) {
            x.make(each, 0);
        }
    }

    static void drop(MasterHeap x, int... handles) {
        for (int handle : handles) {
            x.drop(handle);
        }
    }

    static void lock(MasterHeap x, int... handles) {
        for (int handle : handles) {
            x.lock(handle);
        }
    }

    static void mark(MasterHeap x, int... handles) {
        for (int handle : handles) {
            x.mark(handle, true);
        }
    }

    /** Puts first, first + 1, .. into all the contents of a handle. */
    static void fill(MasterHeap x, int handle, int first) {
        int size = x.handle(handle, 2);
        for (int k = 0; k < size; k++) {
            x.put(handle, k, first + k);
        }
    }

    static void filled(MasterHeap x, int handle, int first, int size) {
        for (int k = 0; k < size; k++) {
            same("get(" + handle + ", " + k + ")", x.get(handle, k), first + k);
        }
    }

    /** The blocks as begin:length:owner. */
    static void blocks(MasterHeap x, String want) {
        String got = blocksOf(x);
        boolean right = got.equals(want);
        same("the blocks are " + got + ", due are " + want + ": that", right, true);
    }

    static String blocksOf(MasterHeap x) {
        StringBuilder text = new StringBuilder();
        int blocks = x.count(7);
        for (int k = 0; k < blocks; k++) {
            text.append(k == 0 ? "" : " ").append(x.block(k, 0)).append(':').append(x.block(k, 1))
                    .append(':').append(x.block(k, 2));
        }
        return text.toString();
    }

    static void zeros(MasterHeap x, int from, int to) {
        for (int k = from; k < to; k++) {
            same("cell(" + k + ")", x.cell(k), 0);
        }
    }

    /** WOULD by all that can be asked of it: step, purged, place, size, squeezed. */
    static void would(MasterHeap x, int size, int... want) {
        for (int what = 0; what < want.length; what++) {
            same("would(" + size + ", " + what + ")", x.would(size, what), want[what]);
        }
    }

    static void noFit(MasterHeap x, int size) {
        would(x, size, CANNOT, CANNOT, CANNOT, CANNOT, CANNOT);
    }

    /**
     * The call answers so behind the way, and nothing happens by it: whatever can be asked then is
     * as it is without the call, and so it is behind each undo.
     */
    static void still(Way ahead, String name, Call call, int want) {
        same(name, call.of(made(ahead)), want);
        if (lastPictured != ahead) {
            lastPictured = ahead;
            lastPicture = Picture.of(ahead);
        }
        String got = Picture.of(x -> {
            ahead.go(x);
            call.of(x);
        });
        same(name + " leaves all as it was: that", got.equals(lastPicture), true);
    }

    // ---- heaps that several tests use ----

    /**
     * 13 acts, of which the last has moved handle 0: handle 3 is EMPTY, 4 to 7 and pointers 1 and 2 are
     * UNUSED, handle 1 has a lock. Blocks 0:4:33 4:6:0 10:5:2 15:5:3 20:10:0 30:10:1, SIZE 40, MOST 60.
     */
    static void rich(MasterHeap x) {
        x.start(40, 60);
        x.make(9, 3);
        x.make(4, 1);
        x.make(4, 2);
        x.make(5, 5);
        x.put(0, 0, 70);
        x.put(1, 3, 71);
        x.put(2, 1, 72);
        x.touch(2);
        x.least(2, 2);
        x.mark(3, true);
        x.purge(3);
        x.lock(1);
        x.fix(3);
    }

    /** Every handle is FULL, with one cell of contents: blocks of 2 cells from 0 to 16, SIZE 64. */
    static void eight(MasterHeap x) {
        lay(x, 64, 64, 1, 1, 1, 1, 1, 1, 1, 1);
    }

    /** Every pointer has an island: 0:2:33 2:2:34 4:2:35, SIZE 64. */
    static void islands(MasterHeap x) {
        x.fix(1);
        x.fix(1);
        x.fix(1);
    }

    /** No cell is FREE, and it can't grow. */
    static void full(MasterHeap x) {
        x.start(8, 8);
        x.make(7, 4);
        fill(x, 0, 30);
    }

    /**
     * By a FIT of 1 to 4 one after another, as more is sought: 0:5:0 5:5:2 10:5:0 15:5:4 20:5:5 25:5:0,
     * handle 3 has a lock; SIZE 30, MOST 36.
     */
    static void steps(MasterHeap x) {
        lay(x, 30, 36, 4, 4, 4, 4, 4);
        x.lock(3);
        drop(x, 0, 2);
    }

    /**
     * Gaps of 5, 5 and 15 cells: 0:5:0 5:2:2 7:5:0 12:2:4 14:5:5 19:5:6 24:5:0; handles 1 and 3 have a
     * lock, 0 and 2 are UNUSED.
     */
    static void gaps(MasterHeap x) {
        lay(x, 29, 29, 4, 1, 4, 1, 4, 4);
        lock(x, 1, 3);
        drop(x, 0, 2);
    }
}
