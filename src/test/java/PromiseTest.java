/** For each promise of the document: ordinary calls, the edges that it names, and wrong inputs. */
public final class PromiseTest {
    private static final int NONE = -1;
    private static int promise = 0;
    private static int passed = 0;
    private static int failed = 0;

    private static void same(String call, int got, int want) {
        if (got == want) {
            passed++;
        } else {
            failed++;
            System.out.println("promise " + promise + ": " + call + " answered " + got + ", due is " + want);
        }
    }

    private static void same(String call, boolean got, boolean want) {
        same(call, got ? 1 : 0, want ? 1 : 0);
    }

    private static MasterHeap started(int size, int most) {
        MasterHeap x = new MasterHeap();
        same("start(" + size + ", " + most + ")", x.start(size, most), true);
        return x;
    }

    /**
     * How the heap is, in one text; short, since an object is promised to answer 512 calls, no more.
     * BoundaryTest looks at all there is.
     */
    private static String picture(MasterHeap x) {
        StringBuilder text = new StringBuilder();
        for (int what = 0; what <= 7; what++) {
            text.append(x.count(what)).append(' ');
        }
        int size = x.count(0);
        for (int k = 0; k < size; k++) {
            text.append(x.cell(k)).append(' ');
        }
        for (int h = 0; h < 8; h++) {
            int last = x.handle(h, 0) == 0 ? 0 : 8;
            for (int what = 0; what <= last; what++) {
                text.append(x.handle(h, what)).append(' ');
            }
        }
        for (int p = 0; p < 3; p++) {
            text.append(x.pointer(p, 0)).append(' ').append(x.pointer(p, 1)).append(' ');
        }
        return text.toString();
    }

    private static void samePicture(String call, MasterHeap x, String before) {
        same(call + " leaves all as it was", picture(x).equals(before), true);
    }

    /** The blocks as begin:length:owner. */
    private static void blocks(MasterHeap x, String want) {
        StringBuilder text = new StringBuilder();
        for (int k = 0; k < x.count(7); k++) {
            text.append(k == 0 ? "" : " ").append(x.block(k, 0)).append(':').append(x.block(k, 1))
                    .append(':').append(x.block(k, 2));
        }
        boolean right = text.toString().equals(want);
        same("blocks are " + text + ", due are " + want + ": that", right, true);
    }

    private static void promise1() {
        MasterHeap x = new MasterHeap();
        same("count(0)", x.count(0), 64);
        same("count(1)", x.count(1), 64);
        for (int what = 2; what <= 6; what++) {
            same("count(" + what + ")", x.count(what), 0);
        }
        blocks(x, "0:64:0");
        for (int h = 0; h < 8; h++) {
            same("handle(" + h + ", 0)", x.handle(h, 0), 0);
        }
        for (int p = 0; p < 3; p++) {
            same("pointer(" + p + ", 0)", x.pointer(p, 0), NONE);
        }
        same("undo()", x.undo(), NONE);
        same("cell(0)", x.cell(0), 4096);
        same("cell(63)", x.cell(63), 0);
        same("after(1)", x.after(1), NONE);
        same("NONE", MasterHeap.NONE, -1);
    }

    private static void promise2() {
        MasterHeap x = started(8, 8);
        blocks(x, "0:8:0");
        same("start(200, 200)", x.start(200, 200), true);
        same("start(8, 200)", x.start(8, 200), true);
        x.make(3, 5);
        x.fix(1);
        x.policy(3);
        x.mark(0, true);
        x.purge(0);
        x.remake(0);
        x.lock(0);
        String before = picture(x);
        same("start(7, 64)", x.start(7, 64), false);
        same("start(201, 201)", x.start(201, 201), false);
        same("start(64, 63)", x.start(64, 63), false);
        same("start(64, 201)", x.start(64, 201), false);
        same("start(-8, 8)", x.start(-8, 8), false);
        same("start(MIN, MAX)", x.start(Integer.MIN_VALUE, Integer.MAX_VALUE), false);
        samePicture("start", x, before);
        same("start(30, 40)", x.start(30, 40), true);
        same("undo()", x.undo(), NONE);
        blocks(x, "0:30:0");
        same("count(0)", x.count(0), 30);
        same("count(1)", x.count(1), 40);
        for (int what = 2; what <= 6; what++) {
            same("count(" + what + ")", x.count(what), 0);
        }
        same("handle(0, 0)", x.handle(0, 0), 0);
        same("pointer(0, 0)", x.pointer(0, 0), NONE);
        same("make(4, 0)", x.make(4, 0), 0);
        same("handle(0, 3)", x.handle(0, 3), 0);
        same("handle(0, 4)", x.handle(0, 4), 0);
    }

    private static void promise3() {
        MasterHeap x = new MasterHeap();
        same("make(5, 0)", x.make(5, 0), 0);
        same("make(10, 9)", x.make(10, 9), 1);
        same("make(5, 3)", x.make(5, 3), 2);
        blocks(x, "0:6:1 6:11:2 17:6:3 23:41:0");
        same("handle(1, 5)", x.handle(1, 5), 9);
        same("handle(1, 6)", x.handle(1, 6), 2);
        same("handle(1, 8)", x.handle(1, 8), 10);
        same("cell(6)", x.cell(6), 11 * 64 + 2);
        x.mark(1, true);
        x.put(1, 0, 77);
        x.drop(1);
        same("the first free block: make(7, 0)", x.make(7, 0), 1);
        blocks(x, "0:6:1 6:8:2 14:3:0 17:6:3 23:41:0");
        same("contents are 0: get(1, 0)", x.get(1, 0), 0);
        same("not purgeable: handle(1, 4)", x.handle(1, 4), 0);
        same("a block of all cells: make(2, 0)", x.make(2, 0), 3);
        blocks(x, "0:6:1 6:8:2 14:3:4 17:6:3 23:41:0");
        String before = picture(x);
        same("make(0, 0)", x.make(0, 0), NONE);
        same("make(61, 0)", x.make(61, 0), NONE);
        same("make(1, -1)", x.make(1, -1), NONE);
        same("make(1, 10)", x.make(1, 10), NONE);
        same("make(41, 0)", x.make(41, 0), -2);
        samePicture("make", x, before);
        same("make(40, 0)", x.make(40, 0), 4);
        same("make(1, 0) in a full heap", x.make(1, 0), -2);
        MasterHeap y = new MasterHeap();
        for (int h = 0; h < 8; h++) {
            same("make(1, 1)", y.make(1, 1), h);
        }
        before = picture(y);
        same("a ninth: make(1, 1)", y.make(1, 1), NONE);
        same("a ninth that is too long: make(60, 1)", y.make(60, 1), NONE);
        samePicture("make", y, before);
        fitBySliding();
        fitByGrowing();
        fitByArranging();
        fitBySqueezing();
        fitByPurging();
    }

    private static void fitBySliding() {
        MasterHeap x = started(30, 30);
        x.make(9, 0);
        x.make(9, 0);
        x.make(4, 0);
        x.put(2, 3, 44);
        x.drop(0);
        same("make(11, 0)", x.make(11, 0), 0);
        blocks(x, "0:10:2 10:5:3 15:12:1 27:3:0");
        same("get(2, 3)", x.get(2, 3), 44);
        same("cell(14)", x.cell(14), 44);
        same("count(5)", x.count(5), 2);
        // it ends as soon as there are cells enough
        MasterHeap y = started(40, 40);
        for (int h = 0; h < 4; h++) {
            y.make(4, 0);
        }
        y.make(19, 0);
        y.drop(0);
        y.drop(2);
        same("make(8, 0)", y.make(8, 0), 0);
        blocks(y, "0:5:2 5:9:1 14:1:0 15:5:4 20:20:5");
        // a fixed block is not passed
        MasterHeap z = started(20, 20);
        z.make(4, 0);
        z.make(4, 0);
        z.lock(1);
        z.drop(0);
        z.make(9, 0);
        blocks(z, "0:5:0 5:5:2 10:10:1");
        same("make(5, 0)", z.make(5, 0), -2);
        blocks(z, "0:5:0 5:5:2 10:10:1");
    }

    private static void fitByGrowing() {
        MasterHeap x = started(20, 50);
        x.make(9, 0);
        x.make(8, 0);
        same("make(5, 0)", x.make(5, 0), 2);
        same("count(0)", x.count(0), 25);
        blocks(x, "0:10:1 10:9:2 19:6:3");
        same("behind a block: make(4, 0)", x.make(4, 0), 3);
        blocks(x, "0:10:1 10:9:2 19:6:3 25:5:4");
        String before = picture(x);
        same("make(20, 0)", x.make(20, 0), -2);
        samePicture("make", x, before);
        same("to the last cell: make(19, 0)", x.make(19, 0), 4);
        same("count(0)", x.count(0), 50);
        MasterHeap empty = started(8, 50);
        same("the last block is all there is: make(20, 0)", empty.make(20, 0), 0);
        blocks(empty, "0:21:1");
        // it slides first, and grows then
        MasterHeap y = started(20, 50);
        y.make(4, 0);
        y.make(9, 0);
        y.drop(0);
        same("make(14, 0)", y.make(14, 0), 0);
        blocks(y, "0:10:2 10:15:1");
        same("count(0)", y.count(0), 25);
    }

    private static void fitByArranging() {
        MasterHeap x = started(40, 40);
        x.make(9, 0);
        x.make(4, 0);
        x.make(9, 0);
        x.put(2, 0, 5);
        x.lock(1);
        x.drop(0);
        same("make(17, 0)", x.make(17, 0), 0);
        blocks(x, "0:10:3 10:5:2 15:18:1 33:7:0");
        same("get(2, 0)", x.get(2, 0), 5);
        same("count(5)", x.count(5), 1);
        // of several ways with one moved block: the first block, to the first gap
        MasterHeap y = threeGaps(29);
        same("make(9, 0)", y.make(9, 0), 0);
        blocks(y, "0:5:5 5:2:2 7:5:0 12:2:4 14:5:6 19:10:1");
        same("count(5)", y.count(5), 2);
        // two must be moved
        y = threeGaps(29);
        same("make(14, 0)", y.make(14, 0), 0);
        blocks(y, "0:5:5 5:2:2 7:5:6 12:2:4 14:15:1");
        same("count(5)", y.count(5), 2);
        // the cells that it can grow by are a gap of their own behind a fixed block
        MasterHeap z = started(20, 30);
        z.make(4, 0);
        z.make(4, 0);
        z.make(9, 0);
        z.lock(2);
        same("make(10, 0)", z.make(10, 0), -2);
        z.drop(0);
        same("make(9, 0)", z.make(9, 0), 0);
        blocks(z, "0:5:2 5:5:0 10:10:3 20:10:1");
        MasterHeap w = started(20, 30);
        w.make(4, 0);
        w.make(4, 0);
        w.make(9, 0);
        w.lock(2);
        w.fix(4);
        same("the island is in what has grown: pointer(0, 0)", w.pointer(0, 0), 20);
        w.drop(0);
        same("make(9, 0)", w.make(9, 0), 0);
        blocks(w, "0:10:1 10:10:3 20:5:33 25:5:2");
    }

    /** Free blocks of 5 cells in each of three gaps, two blocks of 5 cells in the last gap. */
    private static MasterHeap threeGaps(int size) {
        MasterHeap x = started(size, size);
        x.make(4, 0);
        x.make(1, 0);
        x.make(4, 0);
        x.make(1, 0);
        x.make(4, 0);
        x.make(4, 0);
        x.lock(1);
        x.lock(3);
        x.drop(0);
        x.drop(2);
        return x;
    }

    private static MasterHeap twoThatCanBeLess() {
        MasterHeap x = started(30, 30);
        x.make(9, 2);
        x.make(9, 1);
        x.put(1, 5, 15);
        x.put(1, 8, 18);
        x.touch(1);
        x.least(0, 4);
        x.least(1, 6);
        return x;
    }

    private static void fitBySqueezing() {
        MasterHeap x = twoThatCanBeLess();
        same("make(13, 0)", x.make(13, 0), 2);
        blocks(x, "0:5:1 5:10:2 15:14:3 29:1:0");
        same("handle(0, 2)", x.handle(0, 2), 4);
        same("handle(1, 2)", x.handle(1, 2), 9);
        // by cost the other one comes first
        x = twoThatCanBeLess();
        x.policy(1);
        same("make(11, 0)", x.make(11, 0), 2);
        same("handle(0, 2)", x.handle(0, 2), 9);
        same("handle(1, 2)", x.handle(1, 2), 6);
        same("get(1, 5)", x.get(1, 5), 15);
        blocks(x, "0:10:1 10:7:2 17:12:3 29:1:0");
        // what was squeezed off is gone
        x.drop(2);
        x.resize(1, 9);
        same("get(1, 8)", x.get(1, 8), 0);
        same("get(1, 5)", x.get(1, 5), 15);
        // one with locks is not squeezed
        x = twoThatCanBeLess();
        x.lock(0);
        x.lock(1);
        same("make(10, 0)", x.make(10, 0), -2);
        same("make(9, 0)", x.make(9, 0), 2);
    }

    private static void fitByPurging() {
        MasterHeap x = twoThatCanBeLess();
        x.mark(0, true);
        String before = picture(x);
        same("make(24, 0)", x.make(24, 0), -2);
        samePicture("make", x, before);
        same("make(22, 0)", x.make(22, 0), 2);
        same("handle(0, 0)", x.handle(0, 0), 2);
        same("handle(0, 1)", x.handle(0, 1), NONE);
        same("handle(0, 2)", x.handle(0, 2), 4);
        same("handle(1, 2)", x.handle(1, 2), 6);
        blocks(x, "0:7:2 7:23:3");
        // the one of least worth goes, of like ones the least
        MasterHeap y = started(20, 20);
        for (int h = 0; h < 4; h++) {
            y.make(4, h == 0 ? 5 : 3);
            y.mark(h, true);
        }
        y.policy(1);
        same("make(3, 0)", y.make(3, 0), 4);
        same("handle(0, 0)", y.handle(0, 0), 1);
        same("handle(1, 0)", y.handle(1, 0), 2);
        same("handle(2, 0)", y.handle(2, 0), 1);
        blocks(y, "0:5:1 5:4:5 9:1:0 10:5:3 15:5:4");
    }

    private static void promise4() {
        MasterHeap x = new MasterHeap();
        x.make(3, 0);
        same("put(0, 0, 9)", x.put(0, 0, 9), 0);
        same("put(0, 2, MIN)", x.put(0, 2, Integer.MIN_VALUE), 0);
        same("put(0, 0, 9)", x.put(0, 0, 9), 9);
        same("put(0, 0, 8)", x.put(0, 0, 8), 9);
        same("cell(1)", x.cell(1), 8);
        same("cell(3)", x.cell(3), Integer.MIN_VALUE);
        same("count(2)", x.count(2), 5);
        same("handle(0, 6)", x.handle(0, 6), 5);
        x.lock(0);
        same("with a lock: put(0, 1, 3)", x.put(0, 1, 3), 0);
        x.make(2, 0);
        x.put(1, 0, 4);
        x.mark(1, true);
        x.purge(1);
        String before = picture(x);
        same("put(0, 3, 1)", x.put(0, 3, 1), 0);
        same("put(0, -1, 1)", x.put(0, -1, 1), 0);
        same("put(1, 0, 1)", x.put(1, 0, 1), 0);
        same("put(2, 0, 1)", x.put(2, 0, 1), 0);
        same("put(-1, 0, 1)", x.put(-1, 0, 1), 0);
        same("put(8, 0, 1)", x.put(8, 0, 1), 0);
        same("put(0, MAX, 1)", x.put(0, Integer.MAX_VALUE, 1), 0);
        samePicture("put", x, before);
    }

    private static void promise5() {
        MasterHeap x = new MasterHeap();
        x.fix(3);
        x.make(2, 0);
        same("set(0, 0, 9)", x.set(0, 0, 9), 0);
        same("set(0, 2, -7)", x.set(0, 2, -7), 0);
        same("set(0, 0, 1)", x.set(0, 0, 1), 9);
        same("cell(1)", x.cell(1), 1);
        same("cell(3)", x.cell(3), -7);
        same("count(2)", x.count(2), 5);
        same("no handle is touched: handle(0, 6)", x.handle(0, 6), 2);
        String before = picture(x);
        same("set(0, 3, 1)", x.set(0, 3, 1), 0);
        same("set(0, -1, 1)", x.set(0, -1, 1), 0);
        same("set(1, 0, 1)", x.set(1, 0, 1), 0);
        same("set(3, 0, 1)", x.set(3, 0, 1), 0);
        same("set(-1, 0, 1)", x.set(-1, 0, 1), 0);
        same("set(-8, 0, 1)", x.set(-8, 0, 1), 0);
        samePicture("set", x, before);
    }

    private static void promise6() {
        MasterHeap x = new MasterHeap();
        x.make(3, 0);
        x.make(3, 0);
        x.mark(1, true);
        x.purge(1);
        same("touch(0)", x.touch(0), true);
        same("handle(0, 6)", x.handle(0, 6), 5);
        same("of an empty one: touch(1)", x.touch(1), true);
        same("handle(1, 6)", x.handle(1, 6), 6);
        same("count(2)", x.count(2), 6);
        String before = picture(x);
        same("touch(2)", x.touch(2), false);
        same("touch(-1)", x.touch(-1), false);
        same("touch(8)", x.touch(8), false);
        samePicture("touch", x, before);
    }

    private static void promise7() {
        MasterHeap x = new MasterHeap();
        x.make(3, 0);
        for (int locks = 1; locks <= 7; locks++) {
            same("lock(0)", x.lock(0), locks);
            same("handle(0, 6)", x.handle(0, 6), locks + 1);
        }
        String before = picture(x);
        same("an eighth: lock(0)", x.lock(0), NONE);
        same("lock(1)", x.lock(1), NONE);
        same("lock(-1)", x.lock(-1), NONE);
        same("lock(8)", x.lock(8), NONE);
        samePicture("lock", x, before);
        x.make(3, 0);
        x.mark(1, true);
        x.purge(1);
        same("of an empty one: lock(1)", x.lock(1), NONE);
    }

    private static void promise8() {
        MasterHeap x = new MasterHeap();
        x.make(3, 0);
        x.lock(0);
        x.lock(0);
        same("unlock(0)", x.unlock(0), 1);
        same("unlock(0)", x.unlock(0), 0);
        same("it is not touched: handle(0, 6)", x.handle(0, 6), 3);
        same("count(2)", x.count(2), 5);
        String before = picture(x);
        same("unlock(0)", x.unlock(0), NONE);
        same("unlock(1)", x.unlock(1), NONE);
        same("unlock(-1)", x.unlock(-1), NONE);
        same("unlock(8)", x.unlock(8), NONE);
        samePicture("unlock", x, before);
    }

    private static void promise9() {
        MasterHeap x = started(40, 60);
        x.make(4, 0);
        x.make(4, 0);
        x.put(0, 1, 6);
        same("high(0)", x.high(0), 35);
        blocks(x, "0:5:0 5:5:2 10:25:0 35:5:1");
        same("handle(0, 3)", x.handle(0, 3), 1);
        same("handle(0, 6)", x.handle(0, 6), 4);
        same("get(0, 1)", x.get(0, 1), 6);
        same("count(5)", x.count(5), 1);
        same("count(0)", x.count(0), 40);
        same("high(1)", x.high(1), 30);
        String before = picture(x);
        same("with a lock: high(0)", x.high(0), NONE);
        same("high(2)", x.high(2), NONE);
        same("high(-1)", x.high(-1), NONE);
        same("high(8)", x.high(8), NONE);
        samePicture("high", x, before);
        // over its own cells
        MasterHeap y = started(22, 22);
        y.make(9, 0);
        y.make(9, 0);
        same("high(1)", y.high(1), 12);
        // the last free block is too short: it stays
        MasterHeap z = started(22, 22);
        z.make(9, 0);
        z.make(9, 0);
        same("high(0)", z.high(0), 0);
        same("handle(0, 3)", z.handle(0, 3), 1);
        same("count(5)", z.count(5), 0);
        // a free block below that is long enough is not taken, where its own is higher
        MasterHeap w = started(30, 30);
        w.make(9, 0);
        w.make(9, 0);
        w.make(9, 0);
        w.drop(0);
        same("high(1)", w.high(1), 10);
        w.mark(2, true);
        w.purge(2);
        same("an empty one: high(2)", w.high(2), NONE);
    }

    private static void promise10() {
        MasterHeap x = new MasterHeap();
        x.make(3, 0);
        same("mark(0, true)", x.mark(0, true), true);
        same("handle(0, 4)", x.handle(0, 4), 1);
        same("handle(0, 6)", x.handle(0, 6), 1);
        same("count(2)", x.count(2), 2);
        same("mark(0, true)", x.mark(0, true), false);
        same("mark(0, false)", x.mark(0, false), true);
        same("handle(0, 4)", x.handle(0, 4), 0);
        x.mark(0, true);
        x.purge(0);
        same("of an empty one: mark(0, false)", x.mark(0, false), true);
        x.remake(0);
        same("handle(0, 4)", x.handle(0, 4), 0);
        String before = picture(x);
        same("mark(0, false)", x.mark(0, false), false);
        same("mark(1, true)", x.mark(1, true), false);
        same("mark(1, false)", x.mark(1, false), false);
        same("mark(-1, true)", x.mark(-1, true), false);
        same("mark(8, true)", x.mark(8, true), false);
        samePicture("mark", x, before);
    }

    private static void promise11() {
        MasterHeap x = started(30, 30);
        x.make(4, 0);
        x.make(4, 0);
        x.make(4, 0);
        x.put(1, 0, 9);
        same("drop(1)", x.drop(1), true);
        blocks(x, "0:5:1 5:5:0 10:5:3 15:15:0");
        same("cell(6)", x.cell(6), 0);
        same("handle(1, 0)", x.handle(1, 0), 0);
        same("one with both beside it: drop(2)", x.drop(2), true);
        blocks(x, "0:5:1 5:25:0");
        same("cell(10)", x.cell(10), 0);
        x.lock(0);
        String before = picture(x);
        same("with a lock: drop(0)", x.drop(0), false);
        same("drop(1)", x.drop(1), false);
        same("drop(-1)", x.drop(-1), false);
        same("drop(8)", x.drop(8), false);
        samePicture("drop", x, before);
        x.unlock(0);
        x.mark(0, true);
        x.purge(0);
        same("an empty one: drop(0)", x.drop(0), true);
        same("handle(0, 0)", x.handle(0, 0), 0);
        same("count(2)", x.count(2), 11);
    }

    private static void promise12() {
        MasterHeap x = new MasterHeap();
        x.make(6, 0);
        same("least(0, 1)", x.least(0, 1), 6);
        same("least(0, 6)", x.least(0, 6), 1);
        same("least(0, 4)", x.least(0, 4), 6);
        same("handle(0, 8)", x.handle(0, 8), 4);
        same("handle(0, 2)", x.handle(0, 2), 6);
        same("handle(0, 6)", x.handle(0, 6), 1);
        same("count(2)", x.count(2), 4);
        x.lock(0);
        same("with a lock: least(0, 3)", x.least(0, 3), 4);
        String before = picture(x);
        same("least(0, 3)", x.least(0, 3), NONE);
        same("least(0, 0)", x.least(0, 0), NONE);
        same("least(0, 7)", x.least(0, 7), NONE);
        same("least(1, 1)", x.least(1, 1), NONE);
        same("least(-1, 1)", x.least(-1, 1), NONE);
        same("least(8, 1)", x.least(8, 1), NONE);
        samePicture("least", x, before);
        x.unlock(0);
        x.mark(0, true);
        x.purge(0);
        same("of an empty one: least(0, 2)", x.least(0, 2), NONE);
    }

    private static void promise13() {
        MasterHeap x = started(30, 30);
        x.make(4, 0);
        x.make(4, 7);
        x.put(1, 0, 9);
        same("not purgeable: purge(1)", x.purge(1), false);
        x.mark(1, true);
        x.lock(1);
        String before = picture(x);
        same("with a lock: purge(1)", x.purge(1), false);
        same("purge(2)", x.purge(2), false);
        same("purge(-1)", x.purge(-1), false);
        same("purge(8)", x.purge(8), false);
        samePicture("purge", x, before);
        x.unlock(1);
        same("purge(1)", x.purge(1), true);
        blocks(x, "0:5:1 5:25:0");
        same("cell(6)", x.cell(6), 0);
        same("handle(1, 0)", x.handle(1, 0), 2);
        same("handle(1, 1)", x.handle(1, 1), NONE);
        same("handle(1, 2)", x.handle(1, 2), 4);
        same("handle(1, 3)", x.handle(1, 3), 0);
        same("handle(1, 4)", x.handle(1, 4), 1);
        same("handle(1, 5)", x.handle(1, 5), 7);
        same("handle(1, 6)", x.handle(1, 6), 5);
        same("purge(1)", x.purge(1), false);
        same("count(4)", x.count(4), 0);
    }

    private static void promise14() {
        MasterHeap x = started(30, 30);
        x.make(4, 6);
        x.make(9, 7);
        x.put(0, 0, 9);
        x.least(0, 2);
        x.mark(0, true);
        same("remake(0)", x.remake(0), NONE);
        same("remake(2)", x.remake(2), NONE);
        same("remake(-1)", x.remake(-1), NONE);
        same("remake(8)", x.remake(8), NONE);
        x.purge(0);
        same("remake(0)", x.remake(0), 0);
        same("get(0, 0)", x.get(0, 0), 0);
        same("count(4)", x.count(4), 6);
        same("handle(0, 8)", x.handle(0, 8), 2);
        same("handle(0, 4)", x.handle(0, 4), 1);
        same("handle(0, 6)", x.handle(0, 6), 7);
    }

    private static void promise14NoFit() {
        MasterHeap x = started(30, 30);
        x.make(4, 6);
        x.make(9, 7);
        x.mark(0, true);
        x.purge(0);
        x.make(14, 0);
        blocks(x, "0:5:0 5:10:2 15:15:3");
        same("by the first free block: remake(0)", x.remake(0), 0);
        x.purge(0);
        x.make(3, 0);
        String before = picture(x);
        same("remake(0)", x.remake(0), -2);
        samePicture("remake", x, before);
        x.mark(1, true);
        same("by a purge: remake(0)", x.remake(0), 4);
        same("handle(1, 0)", x.handle(1, 0), 2);
        same("count(4)", x.count(4), 12);
        MasterHeap y = started(20, 20);
        y.make(4, 1);
        y.make(9, 2);
        y.mark(0, true);
        y.purge(0);
        y.make(5, 0);
        blocks(y, "0:10:2 10:6:3 16:4:0");
        same("one cell short: remake(0)", y.remake(0), -2);
        y.drop(2);
        same("remake(0)", y.remake(0), 10);
    }

    private static void promise15() {
        MasterHeap x = started(40, 50);
        x.make(9, 0);
        x.make(9, 0);
        for (int k = 0; k < 9; k++) {
            x.put(0, k, 10 + k);
            x.put(1, k, 20 + k);
        }
        x.least(1, 8);
        same("less: resize(1, 5)", x.resize(1, 5), 10);
        blocks(x, "0:10:1 10:6:2 16:24:0");
        same("handle(1, 8)", x.handle(1, 8), 5);
        same("handle(1, 6)", x.handle(1, 6), 22);
        same("cell(16)", x.cell(16), 24 * 64);
        same("more, where it lies: resize(1, 8)", x.resize(1, 8), 10);
        same("get(1, 4)", x.get(1, 4), 24);
        same("a new cell is 0: get(1, 5)", x.get(1, 5), 0);
        same("handle(1, 8)", x.handle(1, 8), 5);
        x.lock(1);
        same("of a fixed one: resize(1, 29)", x.resize(1, 29), 10);
        blocks(x, "0:10:1 10:30:2");
        same("less, of a fixed one: resize(1, 9)", x.resize(1, 9), 10);
        String before = picture(x);
        same("fixed, and no cells behind: resize(1, 60)", x.resize(1, 60), -2);
        same("no fit: resize(0, 60)", x.resize(0, 60), -2);
        same("resize(0, 9)", x.resize(0, 9), NONE);
        same("resize(0, 0)", x.resize(0, 0), NONE);
        same("resize(0, 61)", x.resize(0, 61), NONE);
        same("resize(2, 5)", x.resize(2, 5), NONE);
        same("resize(-1, 5)", x.resize(-1, 5), NONE);
        same("resize(8, 5)", x.resize(8, 5), NONE);
        samePicture("resize", x, before);
        same("elsewhere: resize(0, 12)", x.resize(0, 12), 20);
        blocks(x, "0:10:0 10:10:2 20:13:1 33:7:0");
        same("get(0, 8)", x.get(0, 8), 18);
        same("get(0, 9)", x.get(0, 9), 0);
        same("count(5)", x.count(5), 1);
        same("after(9)", x.after(9), 29);
        x.mark(0, true);
        x.purge(0);
        same("an empty one: resize(0, 3)", x.resize(0, 3), NONE);
    }

    private static void promise15OwnIsSpared() {
        // its own block could be squeezed and purged, and would be the first
        MasterHeap x = started(30, 30);
        x.make(9, 0);
        x.make(9, 0);
        x.least(0, 1);
        x.mark(0, true);
        x.put(0, 8, 18);
        String before = picture(x);
        same("resize(0, 12)", x.resize(0, 12), -2);
        samePicture("resize", x, before);
        x.touch(1);
        x.mark(1, true);
        same("resize(0, 12)", x.resize(0, 12), 10);
        blocks(x, "0:10:0 10:13:1 23:7:0");
        same("handle(1, 0)", x.handle(1, 0), 2);
        same("get(0, 8)", x.get(0, 8), 18);
        same("handle(0, 8)", x.handle(0, 8), 1);
        // a place is one cell short; the cells behind it are just enough, and one short
        MasterHeap z = started(20, 20);
        z.make(4, 0);
        z.make(4, 0);
        z.make(4, 0);
        same("one cell short: resize(0, 5)", z.resize(0, 5), -2);
        z.drop(1);
        z.make(1, 0);
        blocks(z, "0:5:1 5:2:2 7:3:0 10:5:3 15:5:0");
        same("just enough behind: resize(1, 4)", z.resize(1, 4), 5);
        blocks(z, "0:5:1 5:5:2 10:5:3 15:5:0");
        same("to the last cell: resize(2, 9)", z.resize(2, 9), 10);
        blocks(z, "0:5:1 5:5:2 10:10:3");
        same("nothing behind: resize(2, 10)", z.resize(2, 10), -2);
        z.resize(1, 2);
        z.lock(1);
        same("one short behind, and fixed: resize(1, 5)", z.resize(1, 5), -2);
        same("just enough behind, and fixed: resize(1, 4)", z.resize(1, 4), 5);
        // its own block slides while a place is sought
        MasterHeap y = started(30, 30);
        y.make(4, 0);
        y.make(4, 0);
        y.make(4, 0);
        y.put(1, 3, 13);
        y.drop(0);
        same("resize(1, 16)", y.resize(1, 16), 10);
        blocks(y, "0:5:0 5:5:3 10:17:2 27:3:0");
        same("get(1, 3)", y.get(1, 3), 13);
        same("get(1, 4)", y.get(1, 4), 0);
    }

    private static void promise16() {
        MasterHeap x = started(40, 60);
        x.make(9, 0);
        x.make(9, 0);
        x.put(0, 2, 5);
        same("fix(4)", x.fix(4), 0);
        blocks(x, "0:5:33 5:5:0 10:10:2 20:10:0 30:10:1");
        same("get(0, 2)", x.get(0, 2), 5);
        same("count(5)", x.count(5), 1);
        same("not touched: handle(0, 6)", x.handle(0, 6), 3);
        same("cell(0)", x.cell(0), 5 * 64 + 33);
        same("a free place: fix(3)", x.fix(3), 1);
        same("pointer(1, 0)", x.pointer(1, 0), 5);
        same("fix(60)", x.fix(60), -2);
        String before = picture(x);
        same("fix(0)", x.fix(0), NONE);
        same("fix(61)", x.fix(61), NONE);
        same("fix(-1)", x.fix(-1), NONE);
        samePicture("fix", x, before);
        same("fix(1)", x.fix(1), 2);
        before = picture(x);
        same("a fourth: fix(1)", x.fix(1), NONE);
        samePicture("fix", x, before);
        x.set(1, 0, 9);
        x.unfix(1);
        same("the least unused: fix(2)", x.fix(2), 1);
        same("its contents are 0: cell(6)", x.cell(6), 0);
    }

    private static void promise16Places() {
        // over its own cells, without those that are cleared
        MasterHeap x = started(16, 16);
        x.make(9, 0);
        same("fix(4)", x.fix(4), 0);
        blocks(x, "0:5:33 5:1:0 6:10:1");
        // a fixed block is in the way of the first places
        MasterHeap y = started(40, 40);
        y.make(3, 0);
        y.make(3, 0);
        y.make(3, 0);
        y.lock(1);
        same("fix(4)", y.fix(4), 0);
        blocks(y, "0:4:1 4:4:2 8:5:33 13:23:0 36:4:3");
        // a place is cleared by a run below, if there is none above
        MasterHeap z = started(20, 20);
        z.make(4, 0);
        z.make(4, 0);
        z.make(9, 0);
        z.drop(0);
        same("fix(8)", z.fix(8), -2);
        same("fix(5)", z.fix(5), -2);
        z.lock(2);
        same("fix(4)", z.fix(4), 0);
        blocks(z, "0:5:33 5:5:2 10:10:3");
        // a block goes below, just ahead of a fixed block behind the cleared cells
        MasterHeap v = started(20, 20);
        v.make(3, 0);
        v.make(1, 0);
        v.make(3, 0);
        v.make(1, 0);
        v.make(7, 0);
        v.lock(1);
        v.lock(4);
        v.drop(0);
        v.drop(3);
        blocks(v, "0:4:0 4:2:2 6:4:3 10:2:0 12:8:5");
        same("fix(6)", v.fix(6), -2);
        same("fix(5)", v.fix(5), 0);
        blocks(v, "0:4:3 4:2:2 6:6:33 12:8:5");
        // by growing
        MasterHeap w = started(12, 30);
        w.make(10, 0);
        same("fix(10)", w.fix(10), 0);
        blocks(w, "0:11:1 11:11:33");
        same("count(0)", w.count(0), 22);
        String before = picture(w);
        same("fix(8)", w.fix(8), -2);
        samePicture("fix", w, before);
        same("fix(7)", w.fix(7), 1);
        same("pointer(1, 0)", w.pointer(1, 0), 22);
        same("count(0)", w.count(0), 30);
    }

    private static void promise17() {
        MasterHeap x = started(30, 30);
        x.fix(4);
        x.fix(4);
        x.set(0, 0, 9);
        same("unfix(0)", x.unfix(0), true);
        blocks(x, "0:5:0 5:5:34 10:20:0");
        same("cell(1)", x.cell(1), 0);
        same("pointer(0, 0)", x.pointer(0, 0), NONE);
        same("count(2)", x.count(2), 4);
        String before = picture(x);
        same("unfix(0)", x.unfix(0), false);
        same("unfix(2)", x.unfix(2), false);
        same("unfix(-1)", x.unfix(-1), false);
        same("unfix(3)", x.unfix(3), false);
        same("unfix(-8)", x.unfix(-8), false);
        samePicture("unfix", x, before);
        same("unfix(1)", x.unfix(1), true);
        blocks(x, "0:30:0");
    }

    private static void promise18() {
        MasterHeap x = started(40, 60);
        x.make(3, 0);
        x.make(3, 0);
        x.put(1, 0, 8);
        same("reserve(6)", x.reserve(6), 0);
        blocks(x, "0:32:0 32:4:2 36:4:1");
        same("get(1, 0)", x.get(1, 0), 8);
        same("count(5)", x.count(5), 2);
        same("handle(0, 6)", x.handle(0, 6), 1);
        same("free already: reserve(31)", x.reserve(31), 0);
        same("count(5)", x.count(5), 0);
        same("count(2)", x.count(2), 5);
        String before = picture(x);
        same("it does not grow: reserve(32)", x.reserve(32), -2);
        same("reserve(0)", x.reserve(0), NONE);
        same("reserve(61)", x.reserve(61), NONE);
        samePicture("reserve", x, before);
        same("all the cells: reserve(39)", started(40, 40).reserve(39), 0);
        same("one more: reserve(40)", started(40, 40).reserve(40), -2);
        // the last block stands out of the cells: what stands out is free for it alone
        MasterHeap y = started(20, 20);
        y.make(3, 0);
        y.make(5, 0);
        same("reserve(4)", y.reserve(4), 0);
        blocks(y, "0:10:0 10:6:2 16:4:1");
        MasterHeap z = started(15, 15);
        z.make(3, 0);
        z.make(5, 0);
        same("reserve(4)", z.reserve(4), 0);
        blocks(z, "0:5:0 5:6:2 11:4:1");
        // the place is where the block began, though it is one with the free one ahead of it
        MasterHeap w = started(20, 20);
        w.make(1, 0);
        w.make(3, 0);
        w.make(3, 0);
        w.make(1, 0);
        w.lock(3);
        w.drop(0);
        blocks(w, "0:2:0 2:4:2 6:4:3 10:2:4 12:8:0");
        same("reserve(5)", w.reserve(5), 0);
        blocks(w, "0:6:0 6:4:3 10:2:4 12:4:0 16:4:2");
    }

    private static void promise19() {
        MasterHeap x = started(40, 40);
        for (int h = 0; h < 5; h++) {
            x.make(3, 0);
            x.put(h, 0, 50 + h);
        }
        x.lock(2);
        x.drop(0);
        x.drop(3);
        same("compact()", x.compact(), 2);
        blocks(x, "0:4:2 4:4:0 8:4:3 12:4:5 16:24:0");
        same("get(1, 0)", x.get(1, 0), 51);
        same("get(4, 0)", x.get(4, 0), 54);
        same("count(5)", x.count(5), 2);
        int clock = x.count(2);
        same("compact()", x.compact(), 0);
        same("it is an act: count(2)", x.count(2), clock + 1);
        blocks(x, "0:4:2 4:4:0 8:4:3 12:4:5 16:24:0");
    }

    private static void promise20() {
        MasterHeap x = new MasterHeap();
        same("policy(4)", x.policy(4), 0);
        same("policy(1)", x.policy(1), 4);
        same("count(3)", x.count(3), 1);
        same("count(2)", x.count(2), 2);
        String before = picture(x);
        same("policy(1)", x.policy(1), NONE);
        same("policy(-1)", x.policy(-1), NONE);
        same("policy(5)", x.policy(5), NONE);
        samePicture("policy", x, before);
        same("policy(0)", x.policy(0), 1);
    }

    private static void promise21() {
        MasterHeap x = started(30, 60);
        x.make(9, 3);
        x.make(9, 4);
        x.undo();
        same("undo()", x.undo(), 0);
        same("undo()", x.undo(), NONE);
        x.make(9, 3);
        x.put(0, 0, 5);
        x.make(9, 4);
        x.mark(0, true);
        x.make(30, 1);
        x.purge(0);
        x.remake(0);
        x.policy(2);
        x.fix(3);
        x.high(1);
        same("count(6)", x.count(6), 10);
        x.compact();
        same("count(6)", x.count(6), 11);
        x.touch(0);
        x.least(0, 2);
        same("no more than twelve: count(6)", x.count(6), 12);
        same("a call that does nothing leaves them: make(0, 0)", x.make(0, 0), NONE);
        same("make(60, 0)", x.make(60, 0), -2);
        same("count(6)", x.count(6), 12);
        for (int left = 11; left >= 0; left--) {
            same("undo()", x.undo(), left);
            same("count(6)", x.count(6), left);
            same("count(5)", x.count(5), 0);
            same("after(1)", x.after(1), NONE);
        }
        same("undo()", x.undo(), NONE);
        same("count(2)", x.count(2), 1);
        blocks(x, "0:10:1 10:20:0");
        for (int k = 0; k < 40; k++) {
            same("put(0, 0, " + k + ")", x.put(0, 0, k), k == 0 ? 0 : k - 1);
        }
        for (int k = 39; k >= 28; k--) {
            same("get(0, 0)", x.get(0, 0), k);
            same("undo()", x.undo(), k - 28);
        }
        same("get(0, 0)", x.get(0, 0), 27);
    }

    private static void promise21AllIsBack() {
        for (int k = 0; k < 12; k++) {
            MasterHeap x = acted(k + 1);
            same("undo()", x.undo(), Math.min(12, k + 3) - 1);
            same("all is as ahead of act " + k, withoutTheLast(x).equals(withoutTheLast(acted(k))), true);
        }
    }

    private static MasterHeap acted(int acts) {
        MasterHeap x = started(30, 60);
        x.make(9, 3);
        x.put(0, 0, 27);
        for (int k = 0; k < acts; k++) {
            act(x, k);
        }
        return x;
    }

    private static void act(MasterHeap x, int k) {
        switch (k) {
            case 0: same("make", x.make(5, 4), 1); break;
            case 1: same("put", x.put(1, 4, 3), 0); break;
            case 2: same("least", x.least(1, 4), 5); break;
            case 3: same("mark", x.mark(1, true), true); break;
            case 4: same("fix", x.fix(6), 0); break;
            case 5: same("set", x.set(0, 1, 2), 0); break;
            case 6: same("make", x.make(45, 0), -2); same("make", x.make(30, 0), 2); break;
            case 7: same("purge", x.purge(1), true); break;
            case 8: same("remake", x.remake(1), x.handle(1, 1)); break;
            case 9: same("drop", x.drop(2), true); break;
            case 10: same("unfix", x.unfix(0), true); break;
            default: same("lock", x.lock(0), 1); break;
        }
    }

    /** What an undo brings back: all but what tells of the last act, and how many can be undone. */
    private static String withoutTheLast(MasterHeap x) {
        StringBuilder text = new StringBuilder();
        for (int what = 0; what <= 4; what++) {
            text.append(x.count(what)).append(' ');
        }
        int size = x.count(0);
        for (int k = 0; k < size; k++) {
            text.append(x.cell(k)).append(' ');
        }
        for (int h = 0; h < 8; h++) {
            for (int what = 0; what <= 8; what++) {
                text.append(x.handle(h, what)).append(' ');
            }
        }
        return text.toString();
    }

    private static void promise22() {
        MasterHeap x = started(40, 40);
        x.make(7, 5);
        x.make(9, 8);
        x.lock(1);
        x.lock(1);
        x.least(0, 3);
        x.mark(0, true);
        int[] of0 = {1, 0, 7, 0, 1, 5, 1, 1, 3};
        int[] of1 = {1, 8, 9, 2, 0, 8, 4, 4, 9};
        for (int what = 0; what <= 8; what++) {
            same("handle(0, " + what + ")", x.handle(0, what), of0[what]);
            same("handle(1, " + what + ")", x.handle(1, what), of1[what]);
            same("handle(2, " + what + ")", x.handle(2, what), what == 0 ? 0 : NONE);
            same("handle(-1, " + what + ")", x.handle(-1, what), NONE);
            same("handle(8, " + what + ")", x.handle(8, what), NONE);
        }
        same("handle(0, -1)", x.handle(0, -1), NONE);
        same("handle(0, 9)", x.handle(0, 9), NONE);
        int[] worths = {1, 5, 71, 993, 21};
        int[] others = {4, 8, 88, 991, 36};
        for (int policy = 1; policy <= 4; policy++) {
            x.policy(policy);
            same("by policy " + policy + ": handle(0, 7)", x.handle(0, 7), worths[policy]);
            same("by policy " + policy + ": handle(1, 7)", x.handle(1, 7), others[policy]);
        }
        x.purge(0);
        int[] empty = {2, NONE, 7, 0, 1, 5, 1, 21, 3};
        for (int what = 0; what <= 8; what++) {
            same("empty: handle(0, " + what + ")", x.handle(0, what), empty[what]);
        }
    }

    private static void promise23() {
        MasterHeap x = new MasterHeap();
        x.make(3, 0);
        x.make(3, 0);
        x.put(1, 0, 5);
        x.put(1, 2, 7);
        same("get(1, 0)", x.get(1, 0), 5);
        same("get(1, 1)", x.get(1, 1), 0);
        same("get(1, 2)", x.get(1, 2), 7);
        same("get(1, 3)", x.get(1, 3), 0);
        same("get(0, -1)", x.get(0, -1), 0);
        same("get(1, -1)", x.get(1, -1), 0);
        same("get(2, 0)", x.get(2, 0), 0);
        same("get(-1, 0)", x.get(-1, 0), 0);
        same("get(8, 0)", x.get(8, 0), 0);
        x.mark(1, true);
        x.purge(1);
        same("empty: get(1, 0)", x.get(1, 0), 0);
        x.fix(2);
        x.set(0, 0, 4);
        same("an island is no handle: get(8, 0)", x.get(8, 0), 0);
    }

    private static void promise24() {
        MasterHeap x = new MasterHeap();
        x.fix(3);
        x.fix(60 - 5);
        same("pointer(0, 0)", x.pointer(0, 0), 0);
        same("pointer(0, 1)", x.pointer(0, 1), 3);
        same("pointer(1, 0)", x.pointer(1, 0), 4);
        same("pointer(1, 1)", x.pointer(1, 1), 55);
        same("pointer(2, 0)", x.pointer(2, 0), NONE);
        same("pointer(2, 1)", x.pointer(2, 1), NONE);
        same("pointer(0, 2)", x.pointer(0, 2), NONE);
        same("pointer(0, -1)", x.pointer(0, -1), NONE);
        same("pointer(3, 0)", x.pointer(3, 0), NONE);
        same("pointer(-1, 0)", x.pointer(-1, 0), NONE);
    }

    private static void promise25() {
        MasterHeap x = started(12, 20);
        x.make(2, 0);
        x.fix(2);
        x.put(0, 0, 5);
        x.put(0, 1, -6);
        x.set(0, 1, 7);
        int[] cells = {3 * 64 + 33, 0, 7, 6 * 64, 0, 0, 0, 0, 0, 3 * 64 + 1, 5, -6};
        for (int k = 0; k < 12; k++) {
            same("cell(" + k + ")", x.cell(k), cells[k]);
        }
        same("cell(-1)", x.cell(-1), 0);
        same("cell(12)", x.cell(12), 0);
        same("cell(MAX)", x.cell(Integer.MAX_VALUE), 0);
    }

    private static void promise26() {
        MasterHeap x = started(20, 20);
        x.make(4, 0);
        x.make(4, 0);
        x.fix(2);
        int[][] blocks = {{0, 3, 33}, {3, 2, 0}, {5, 5, 2}, {10, 5, 0}, {15, 5, 1}};
        for (int k = 0; k < 5; k++) {
            for (int what = 0; what <= 2; what++) {
                same("block(" + k + ", " + what + ")", x.block(k, what), blocks[k][what]);
            }
        }
        same("block(5, 0)", x.block(5, 0), NONE);
        same("block(-1, 0)", x.block(-1, 0), NONE);
        same("block(0, 3)", x.block(0, 3), NONE);
        same("block(0, -1)", x.block(0, -1), NONE);
    }

    private static void promise27() {
        MasterHeap x = started(20, 60);
        same("free(0)", x.free(0), 20);
        same("free(3)", x.free(3), 1);
        x.make(4, 0);
        x.make(4, 0);
        x.fix(2);
        same("free(0)", x.free(0), 7);
        same("free(1)", x.free(1), 5);
        same("free(2)", x.free(2), 2);
        same("free(3)", x.free(3), 1);
        x.lock(1);
        same("free(3)", x.free(3), 2);
        x.lock(0);
        same("free(3)", x.free(3), 2);
        same("free(-1)", x.free(-1), NONE);
        same("free(4)", x.free(4), NONE);
        freeBetweenAll();
        MasterHeap y = started(10, 10);
        y.make(9, 0);
        same("free(0)", y.free(0), 0);
        same("free(1)", y.free(1), 0);
        same("free(2)", y.free(2), 0);
        same("free(3)", y.free(3), 1);
        y.lock(0);
        same("free(3)", y.free(3), 0);
    }

    /** As many blocks as there can be: eight handles and three islands, each between free ones. */
    private static void freeBetweenAll() {
        MasterHeap x = started(200, 200);
        for (int h = 0; h < 3; h++) {
            x.make(1, 0);
            x.lock(h);
            x.fix(4);
        }
        for (int h = 0; h < 3; h++) {
            x.unlock(h);
            x.drop(h);
        }
        for (int h = 0; h < 8; h++) {
            same("make(3, 0)", x.make(3, 0), h);
        }
        x.drop(0);
        x.make(60, 0);
        for (int h = 1; h < 8; h++) {
            x.resize(h, 1);
            x.lock(h);
        }
        same("free(2)", x.free(2), 12);
        same("free(0)", x.free(0), 200 - 3 * 5 - 7 * 2 - 61);
        same("count(7)", x.count(7), 23);
        same("block(22, 0)", x.block(22, 0), 114);
        same("free(3)", x.free(3), 11);
        x.lock(0);
        same("free(3)", x.free(3), 12);
        same("three(199, 1, 1)", x.three(199, 1, 1), false);
        same("three(85, 3, 1)", x.three(85, 3, 1), true);
        same("three(85, 4, 1)", x.three(85, 4, 1), false);
    }

    private static void promise28() {
        would("first free", started(20, 40), 19, 1, 0, 0, 20, 0);
        MasterHeap x = started(30, 30);
        x.make(9, 0);
        x.make(9, 0);
        x.make(4, 0);
        x.drop(0);
        would("slide", x, 11, 2, 0, 15, 30, 0);
        MasterHeap y = started(20, 50);
        y.make(9, 0);
        y.make(8, 0);
        would("grow", y, 5, 3, 0, 19, 25, 0);
        would("grow to the last cell", y, 30, 3, 0, 19, 50, 0);
        same("would(31, 0)", y.would(31, 0), -2);
        would("arrange", threeGaps(29), 9, 4, 0, 19, 29, 0);
        MasterHeap z = twoThatCanBeLess();
        would("squeeze", z, 13, 2, 0, 15, 30, 1);
        z.mark(0, true);
        z.mark(1, true);
        would("purge one", z, 22, 2, 1, 7, 30, 3);
        would("purge both", z, 24, 1, 3, 0, 30, 3);
        String before = picture(z);
        z.would(24, 0);
        samePicture("would", z, before);
        MasterHeap w = new MasterHeap();
        for (int h = 0; h < 8; h++) {
            w.make(1, 0);
        }
        would("without an unused handle", w, 40, 1, 0, 16, 64, 0);
        same("would(0, 0)", w.would(0, 0), NONE);
        same("would(200, 0)", w.would(200, 0), NONE);
        same("would(199, 0)", w.would(199, 0), -2);
        same("would(1, -1)", w.would(1, -1), NONE);
        same("would(1, 5)", w.would(1, 5), NONE);
        same("would(199, 5)", w.would(199, 5), NONE);
        would("the whole heap", started(200, 200), 199, 1, 0, 0, 200, 0);
        would("the least", started(8, 8), 1, 1, 0, 0, 8, 0);
        MasterHeap all = started(24, 24);
        for (int h = 0; h < 8; h++) {
            all.make(2, 0);
            all.least(h, 1);
            all.mark(h, true);
        }
        would("all are squeezed, all are purged", all, 23, 1, 255, 0, 24, 255);
    }

    private static void would(String name, MasterHeap x, int size, int... want) {
        for (int what = 0; what <= 4; what++) {
            same(name + ": would(" + size + ", " + what + ")", x.would(size, what), want[what]);
        }
    }

    private static void promise29() {
        MasterHeap x = twoThatCanBeLess();
        same("greatest(0)", x.greatest(0), 9);
        same("greatest(1)", x.greatest(1), 17);
        same("greatest(2)", x.greatest(2), 17);
        x.mark(0, true);
        same("greatest(2)", x.greatest(2), 22);
        x.mark(1, true);
        same("greatest(2)", x.greatest(2), 29);
        same("greatest(0)", x.greatest(0), 9);
        x.lock(0);
        same("greatest(1)", x.greatest(1), 12);
        same("greatest(2)", x.greatest(2), 19);
        same("greatest(-1)", x.greatest(-1), NONE);
        same("greatest(3)", x.greatest(3), NONE);
        same("greatest(0)", started(8, 200).greatest(0), 199);
        MasterHeap y = started(8, 8);
        y.make(7, 0);
        same("greatest(0)", y.greatest(0), 0);
        same("greatest(2)", y.greatest(2), 0);
        MasterHeap one = started(8, 8);
        one.make(6, 0);
        same("a cell alone is too little: greatest(0)", one.greatest(0), 0);
        same("by another order of the blocks: greatest(0)", threeGaps(29).greatest(0), 14);
    }

    private static void promise30() {
        MasterHeap x = started(40, 40);
        int[] sizes = {4, 9, 4, 9, 9};
        for (int h = 0; h < 5; h++) {
            x.make(sizes[h], 9 - h);
            x.mark(h, true);
        }
        x.mark(4, false);
        same("fewest(3, 0)", x.fewest(3, 0), 1);
        same("fewest(3, 1)", x.fewest(3, 1), 1);
        same("fewest(5, 0)", x.fewest(5, 0), 1);
        same("fewest(5, 1)", x.fewest(5, 1), 2);
        same("fewest(14, 0)", x.fewest(14, 0), 2);
        same("fewest(14, 1)", x.fewest(14, 1), 3);
        same("fewest(15, 1)", x.fewest(15, 1), 10);
        same("fewest(29, 0)", x.fewest(29, 0), 4);
        same("fewest(29, 1)", x.fewest(29, 1), 15);
        same("fewest(30, 0)", x.fewest(30, 0), -2);
        same("fewest(30, 1)", x.fewest(30, 1), -2);
        x.least(4, 1);
        same("it is not squeezed: fewest(30, 0)", x.fewest(30, 0), -2);
        x.lock(1);
        same("a fixed one can't go: fewest(5, 1)", x.fewest(5, 1), 8);
        x.drop(0);
        same("none must go: fewest(4, 0)", x.fewest(4, 0), 0);
        same("none must go: fewest(1, 0)", x.fewest(1, 0), 0);
        same("in a heap of most cells: fewest(199, 0)", started(8, 200).fewest(199, 0), 0);
        same("fewest(4, 1)", x.fewest(4, 1), 0);
        same("fewest(0, 0)", x.fewest(0, 0), NONE);
        same("fewest(200, 0)", x.fewest(200, 0), NONE);
        same("fewest(1, 2)", x.fewest(1, 2), NONE);
        same("fewest(1, -1)", x.fewest(1, -1), NONE);
        same("fewest(199, 2)", x.fewest(199, 2), NONE);
        MasterHeap y = started(16, 16);
        for (int h = 0; h < 8; h++) {
            y.make(1, 0);
            y.mark(h, true);
        }
        same("all: fewest(15, 0)", y.fewest(15, 0), 8);
        same("all: fewest(15, 1)", y.fewest(15, 1), 255);
    }

    private static void promise31() {
        MasterHeap x = started(20, 30);
        same("three(9, 9, 9)", x.three(9, 9, 9), true);
        same("three(9, 9, 10)", x.three(9, 9, 10), false);
        same("three(0, 0, 0)", x.three(0, 0, 0), true);
        same("three(29, 0, 0)", x.three(29, 0, 0), true);
        same("three(0, 30, 0)", x.three(0, 30, 0), false);
        same("three(0, 14, 14)", x.three(0, 14, 14), true);
        same("three(-1, 0, 0)", x.three(-1, 0, 0), false);
        same("three(0, 200, 0)", x.three(0, 200, 0), false);
        same("three(0, 0, -1)", x.three(0, 0, -1), false);
        same("three(0, 0, 199)", x.three(0, 0, 199), false);
        same("three(199, 0, 0)", started(8, 200).three(199, 0, 0), true);
        // three gaps of 5, 5 and 15 cells with two blocks of 5 cells
        MasterHeap y = threeGaps(29);
        same("three(4, 4, 4)", y.three(4, 4, 4), true);
        same("three(14, 0, 0)", y.three(14, 0, 0), true);
        same("three(9, 4, 0)", y.three(9, 4, 0), true);
        same("three(9, 4, 1)", y.three(9, 4, 1), false);
        same("three(5, 5, 2)", y.three(5, 5, 2), true);
        same("three(5, 5, 3)", y.three(5, 5, 3), false);
        same("three(6, 6, 2)", y.three(6, 6, 2), false);
        String before = picture(y);
        y.three(9, 4, 0);
        samePicture("three", y, before);
        // what it can grow by is a gap of its own behind a fixed block
        MasterHeap z = started(10, 20);
        z.make(9, 0);
        same("three(9, 0, 0)", z.three(9, 0, 0), true);
        z.lock(0);
        same("three(9, 0, 0)", z.three(9, 0, 0), true);
        same("three(4, 4, 0)", z.three(4, 4, 0), true);
        same("three(4, 3, 1)", z.three(4, 3, 1), false);
    }

    private static void promise32() {
        MasterHeap x = started(30, 30);
        x.make(4, 0);
        x.make(4, 0);
        x.make(2, 0);
        x.make(4, 0);
        x.drop(0);
        x.drop(3);
        x.make(9, 0);
        blocks(x, "0:5:0 5:5:2 10:3:3 13:10:1 23:7:0");
        same("none: cheapest(6, 0)", x.cheapest(6, 0), 0);
        same("none: cheapest(6, 1)", x.cheapest(6, 1), 0);
        same("cheapest(7, 0)", x.cheapest(7, 0), 5);
        same("cheapest(7, 1)", x.cheapest(7, 1), 2);
        same("cheapest(9, 1)", x.cheapest(9, 1), 2);
        same("cheapest(11, 0)", x.cheapest(11, 0), 15);
        same("cheapest(11, 1)", x.cheapest(11, 1), 3);
        same("cheapest(12, 0)", x.cheapest(12, 0), -2);
        same("cheapest(12, 1)", x.cheapest(12, 1), -2);
        x.lock(1);
        same("a fixed one stays: cheapest(9, 1)", x.cheapest(9, 1), 4 + 1);
        same("cheapest(0, 0)", x.cheapest(0, 0), NONE);
        same("cheapest(200, 0)", x.cheapest(200, 0), NONE);
        same("cheapest(1, 2)", x.cheapest(1, 2), NONE);
        same("cheapest(1, -1)", x.cheapest(1, -1), NONE);
        same("cheapest(199, 2)", x.cheapest(199, 2), NONE);
        same("in a heap of most cells: cheapest(199, 0)", started(8, 200).cheapest(199, 0), 0);
        same("cheapest(1, 0)", started(8, 8).cheapest(1, 0), 0);
        // each of two of like length would do: the least as bits
        MasterHeap z = started(22, 22);
        z.make(4, 0);
        z.make(1, 0);
        z.make(4, 0);
        z.make(4, 0);
        z.make(4, 0);
        z.lock(1);
        z.drop(0);
        z.drop(3);
        blocks(z, "0:5:0 5:2:2 7:5:3 12:5:0 17:5:5");
        same("cheapest(9, 0)", z.cheapest(9, 0), 5);
        same("cheapest(9, 1)", z.cheapest(9, 1), 4);
        // one of two of like length would not do
        MasterHeap y = threeGaps(29);
        same("cheapest(9, 0)", y.cheapest(9, 0), 5);
        same("cheapest(9, 1)", y.cheapest(9, 1), 32);
        same("cheapest(14, 0)", y.cheapest(14, 0), 10);
        same("cheapest(14, 1)", y.cheapest(14, 1), 48);
    }

    private static void promise33() {
        MasterHeap x = started(30, 30);
        same("no act: after(1)", x.after(1), NONE);
        x.make(4, 0);
        same("none was there: after(1)", x.after(1), NONE);
        x.make(4, 0);
        same("after(1)", x.after(1), 1);
        x.make(4, 0);
        x.fix(2);
        blocks(x, "0:3:33 3:2:0 5:5:2 10:5:3 15:10:0 25:5:1");
        same("a header: after(0)", x.after(0), NONE);
        same("after(1)", x.after(1), 26);
        same("after(4)", x.after(4), 29);
        same("after(5)", x.after(5), NONE);
        same("after(6)", x.after(6), 6);
        same("after(15)", x.after(15), NONE);
        same("after(-1)", x.after(-1), NONE);
        same("after(30)", x.after(30), NONE);
        same("after(MAX)", x.after(Integer.MAX_VALUE), NONE);
        same("after(MIN)", x.after(Integer.MIN_VALUE), NONE);
        x.resize(1, 2);
        same("after(7)", x.after(7), 7);
        same("fewer: after(8)", x.after(8), -2);
        same("of an island: after(1)", x.after(1), NONE);
        x.drop(2);
        same("gone: after(11)", x.after(11), -2);
        same("nothing happens: drop(2)", x.drop(2), false);
        same("gone: after(11)", x.after(11), -2);
        x.undo();
        same("undone: after(11)", x.after(11), NONE);
        x.mark(2, true);
        x.purge(2);
        same("gone: after(11)", x.after(11), -2);
        x.remake(2);
        same("it was empty: after(11)", x.after(11), NONE);
        x.start(30, 30);
        same("after(11)", x.after(11), NONE);
    }

    private static void promise34() {
        MasterHeap x = new MasterHeap();
        int[] costs = {5, 2, 5, 2, 9};
        for (int h = 0; h < 5; h++) {
            x.make(3 + h, costs[h]);
        }
        same("order(0)", x.order(0), NONE);
        for (int h = 4; h >= 0; h--) {
            x.mark(h, true);
        }
        order(x, 0, 1, 2, 3, 4);
        x.touch(0);
        order(x, 1, 2, 3, 4, 0);
        x.policy(1);
        order(x, 1, 3, 0, 2, 4);
        x.policy(2);
        order(x, 3, 1, 2, 4, 0);
        x.policy(3);
        order(x, 4, 3, 2, 1, 0);
        x.policy(4);
        order(x, 1, 3, 2, 0, 4);
        x.lock(3);
        x.purge(2);
        order(x, 1, 0, 4);
        same("order(-1)", x.order(-1), NONE);
        same("order(8)", x.order(8), NONE);
        same("order(MAX)", x.order(Integer.MAX_VALUE), NONE);
        same("order(MIN)", x.order(Integer.MIN_VALUE), NONE);
    }

    private static void order(MasterHeap x, int... want) {
        for (int k = 0; k < want.length; k++) {
            same("order(" + k + ") by policy " + x.count(3), x.order(k), want[k]);
        }
        same("order(" + want.length + ")", x.order(want.length), NONE);
    }

    private static void promise35() {
        MasterHeap x = started(30, 60);
        x.make(4, 0);
        x.make(4, 0);
        x.fix(2);
        blocks(x, "0:3:33 3:2:0 5:5:2 10:15:0 25:5:1");
        same("torn(-1, 0)", x.torn(-1, 0), -2);
        same("torn(30, 0)", x.torn(30, 0), -2);
        for (int k : new int[] {0, 3, 5, 10, 25}) {
            same("as it is: torn(" + k + ")", x.torn(k, x.cell(k)), NONE);
            same("torn(" + k + ", 63)", x.torn(k, 63), k);
            same("torn(" + k + ", -1)", x.torn(k, -1), k);
            same("torn(" + k + ", MIN)", x.torn(k, Integer.MIN_VALUE), k);
            same("torn(" + k + ", MAX)", x.torn(k, Integer.MAX_VALUE), k);
            same("no such owner: torn(" + k + ")", x.torn(k, x.block(0, 1) * 64 + 9), k);
            same("beyond the heap: torn(" + k + ")", x.torn(k, (31 - k) * 64), k);
        }
        same("no header: torn(1, 0)", x.torn(1, 0), NONE);
        same("no header: torn(29, -5)", x.torn(29, -5), NONE);
        same("a pointer without an island: torn(0)", x.torn(0, 3 * 64 + 34), 0);
        same("a free island: torn(0) finds", x.torn(0, 3 * 64), 3);
        same("another handle: torn(5)", x.torn(5, 5 * 64 + 1), 5);
        same("an unused handle: torn(5)", x.torn(5, 5 * 64 + 3), 5);
        same("another length: torn(5)", x.torn(5, 4 * 64 + 2), 5);
        same("owner 32: torn(5)", x.torn(5, 5 * 64 + 32), 5);
        same("owner 36: torn(5)", x.torn(5, 5 * 64 + 36), 5);
        same("free behind a free one: torn(5)", x.torn(5, 5 * 64), 5);
        same("a free one over a block: torn(3) finds", x.torn(3, 7 * 64), 10);
        same("a free one over two blocks: torn(3)", x.torn(3, 22 * 64), NONE);
        same("a free one to the end: torn(10)", x.torn(10, 20 * 64), NONE);
        same("a free one that is shorter: torn(10) finds", x.torn(10, 10 * 64), 20);
        MasterHeap y = started(9, 9);
        y.make(7, 0);
        same("a free one of one cell: torn(8, 64)", y.torn(8, 64), NONE);
        x.put(1, 2, 2 * 64);
        same("into contents that look like a header: torn(3)", x.torn(3, 5 * 64), 8);
        x.put(1, 2, 2 * 64 + 1);
        same("of a handle that lies elsewhere: torn(3)", x.torn(3, 5 * 64), 8);
        String before = picture(x);
        x.torn(3, 0);
        samePicture("torn", x, before);
    }

    private static void promise36() {
        MasterHeap x = started(20, 40);
        x.make(9, 3);
        x.mark(0, true);
        x.purge(0);
        x.remake(0);
        x.make(19, 0);
        x.policy(3);
        x.fix(4);
        int[] want = {35, 40, 7, 3, 3, 0, 7, 3};
        for (int what = 0; what <= 7; what++) {
            same("count(" + what + ")", x.count(what), want[what]);
        }
        same("count(-1)", x.count(-1), NONE);
        same("count(8)", x.count(8), NONE);
        x.drop(0);
        same("count(7)", x.count(7), 3);
        x.compact();
        same("count(5)", x.count(5), 1);
        same("a call that does nothing: drop(0)", x.drop(0), false);
        same("count(5)", x.count(5), 1);
        x.touch(1);
        same("count(5)", x.count(5), 0);
        x.undo();
        same("count(5)", x.count(5), 0);
        same("count(6)", x.count(6), 9);
    }

    private static void run(int number) {
        promise = number;
        switch (number) {
            case 1: promise1(); break;
            case 2: promise2(); break;
            case 3: promise3(); break;
            case 4: promise4(); break;
            case 5: promise5(); break;
            case 6: promise6(); break;
            case 7: promise7(); break;
            case 8: promise8(); break;
            case 9: promise9(); break;
            case 10: promise10(); break;
            case 11: promise11(); break;
            case 12: promise12(); break;
            case 13: promise13(); break;
            case 14: promise14(); promise14NoFit(); break;
            case 15: promise15(); promise15OwnIsSpared(); break;
            case 16: promise16(); promise16Places(); break;
            case 17: promise17(); break;
            case 18: promise18(); break;
            case 19: promise19(); break;
            case 20: promise20(); break;
            case 21: promise21(); promise21AllIsBack(); break;
            case 22: promise22(); break;
            case 23: promise23(); break;
            case 24: promise24(); break;
            case 25: promise25(); break;
            case 26: promise26(); break;
            case 27: promise27(); break;
            case 28: promise28(); break;
            case 29: promise29(); break;
            case 30: promise30(); break;
            case 31: promise31(); break;
            case 32: promise32(); break;
            case 33: promise33(); break;
            case 34: promise34(); break;
            case 35: promise35(); break;
            default: promise36(); break;
        }
    }

    public static void main(String[] args) {
        for (int number = 1; number <= 36; number++) {
            run(number);
        }
        System.out.println("PromiseTest: " + passed + " answers as due, " + failed + " not");
        if (failed > 0) {
            System.exit(1);
        }
    }
}
