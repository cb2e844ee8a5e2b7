/** The document's terms: the heap, its blocks, what a handle is, START. */
final class HeapBoundaries extends Boundaries {
    private HeapBoundaries() {
    }

    @Sentence(promise = {36}, says = "An object is used for at most 512 calls after it has been made; what later "
            + "calls answer is free.")
    static void theLastOf512CallsIsAnsweredRight() {
        MasterHeap x = new MasterHeap();
        x.make(1, 0);
        for (int call = 2; call <= 509; call++) {
            x.put(0, 0, call);
        }
        same("call 510: count(2)", x.count(2), 509);
        same("call 511: undo()", x.undo(), 11);
        same("call 512: get(0, 0)", x.get(0, 0), 508);
    }

    @Sentence(promise = {1}, says = "The constants: `NONE = -1`: None.")
    static void noneIsMinus1() {
        same("NONE", MasterHeap.NONE, -1);
    }

    // ---- the heap and its blocks ----

    @Sentence(promise = {25, 35}, says = "THE HEAP is CELLS 0 to SIZE - 1;")
    static void cellsGoFrom0ToSizeLess1() {
        MasterHeap x = heap(9, 20, 8);
        x.put(0, 7, 55);
        same("cell(-1)", x.cell(-1), 0);
        same("cell(0)", x.cell(0), 9 * 64 + 1);
        same("cell(8)", x.cell(8), 55);
        same("cell(9)", x.cell(9), 0);
        same("torn(-1, 0)", x.torn(-1, 0), CANNOT);
        same("torn(0, 0)", x.torn(0, 0), 0);
        same("torn(8, 0)", x.torn(8, 0), NONE);
        same("torn(9, 0)", x.torn(9, 0), CANNOT);
    }

    @Sentence(promise = {3, 36}, says = "it can grow to MOST.")
    static void itGrowsToMostAndNoFurther() {
        MasterHeap x = heap(8, 61);
        same("make(60, 0)", x.make(60, 0), 0);
        same("count(0)", x.count(0), 61);
        MasterHeap y = heap(8, 60);
        same("make(60, 0)", y.make(60, 0), CANNOT);
        same("count(0)", y.count(0), 8);
        same("make(59, 0)", y.make(59, 0), 0);
        same("count(0)", y.count(0), 60);
        MasterHeap z = heap(8, 8);
        same("make(8, 0)", z.make(8, 0), CANNOT);
        same("make(7, 0)", z.make(7, 0), 0);
        same("count(1)", z.count(1), 8);
    }

    @Sentence(promise = {26, 36}, says = "BLOCKS one behind the other fill it.")
    static void theBlocksFillTheHeap() {
        filledByBlocks("an empty heap", heap(8, 8));
        filledByBlocks("the greatest", heap(200, 200));
        filledByBlocks("a full one", made(Boundaries::full));
        filledByBlocks("one with all kinds of blocks", made(Boundaries::rich));
        filledByBlocks("one with gaps", made(Boundaries::gaps));
    }

    private static void filledByBlocks(String name, MasterHeap x) {
        int at = 0;
        for (int k = 0; k < x.count(7); k++) {
            same(name + ": block(" + k + ", 0)", x.block(k, 0), at);
            same(name + ": the block has a cell: that", x.block(k, 1) >= 1, true);
            at += x.block(k, 1);
        }
        same(name + ": where the last ends", at, x.count(0));
    }

    @Sentence(promise = {25, 26}, says = "The first CELL of a BLOCK is its HEADER: 64 times its LENGTH (its "
            + "CELLS, with the HEADER), and its OWNER: 0, it is FREE; 1 + h, it is LOOSE, of HANDLE h (0 to 7); "
            + "33 + p, it is an ISLAND, of POINTER p (0 to 2).")
    static void theHeadersOfAllOwners() {
        MasterHeap x = heap(30, 30);
        islands(x);
        for (int p = 0; p <= 2; p++) {
            same("cell(" + 2 * p + ")", x.cell(2 * p), 2 * 64 + 33 + p);
            same("block(" + p + ", 2)", x.block(p, 2), 33 + p);
        }
        for (int h = 0; h <= 7; h++) {
            same("make(1, 0)", x.make(1, 0), h);
            same("cell(" + (6 + 2 * h) + ")", x.cell(6 + 2 * h), 2 * 64 + 1 + h);
            same("block(" + (3 + h) + ", 2)", x.block(3 + h, 2), 1 + h);
        }
        same("cell(22)", x.cell(22), 8 * 64);
        same("block(11, 1)", x.block(11, 1), 8);
        same("block(11, 2)", x.block(11, 2), 0);
        same("the greatest: cell(0)", heap(200, 200).cell(0), 200 * 64);
        same("the greatest block: cell(0)", heap(200, 200, 60).cell(0), 61 * 64 + 1);
        MasterHeap one = heap(8, 8, 6);
        same("a header alone: cell(7)", one.cell(7), 64);
    }

    @Sentence(promise = {4, 5, 25}, says = "The CELLS behind are its CONTENTS;")
    static void contentsAreBehindTheHeader() {
        MasterHeap x = heap(20, 20, 3, 2);
        fill(x, 0, 10);
        fill(x, 1, 20);
        int[] cells = {4 * 64 + 1, 10, 11, 12, 3 * 64 + 2, 20, 21, 13 * 64};
        for (int k = 0; k < cells.length; k++) {
            same("cell(" + k + ")", x.cell(k), cells[k]);
        }
        MasterHeap y = heap(20, 20);
        y.fix(2);
        y.set(0, 0, 30);
        y.set(0, 1, 31);
        same("of an island: cell(1)", y.cell(1), 30);
        same("of an island: cell(2)", y.cell(2), 31);
        same("behind it: cell(3)", y.cell(3), 17 * 64);
    }

    @Sentence(promise = {9, 11, 13, 15, 17, 19, 25}, says = "those of a FREE BLOCK are 0.")
    static void whatIsFreeIs0() {
        zeros(heap(200, 200), 1, 200);
        MasterHeap x = heap(12, 12, 5);
        fill(x, 0, 40);
        x.drop(0);
        zeros(x, 1, 12);
        x.make(5, 0);
        fill(x, 0, 40);
        x.mark(0, true);
        x.purge(0);
        zeros(x, 1, 12);
        x.remake(0);
        fill(x, 0, 40);
        x.resize(0, 2);
        same("cell(3)", x.cell(3), 9 * 64);
        zeros(x, 4, 12);
    }

    @Sentence(promise = {9, 16, 17, 19}, says = "those of a FREE BLOCK are 0.")
    static void whatIsFreeBehindAMoveIs0() {
        MasterHeap x = heap(20, 20, 4, 4);
        fill(x, 1, 60);
        x.drop(0);
        x.compact();
        blocks(x, "0:5:2 5:15:0");
        zeros(x, 6, 20);
        x.high(1);
        blocks(x, "0:15:0 15:5:2");
        zeros(x, 1, 15);
        MasterHeap y = heap(20, 20);
        y.fix(4);
        for (int k = 0; k < 4; k++) {
            y.set(0, k, 80 + k);
        }
        y.unfix(0);
        zeros(y, 1, 20);
        MasterHeap z = heap(20, 20, 9);
        fill(z, 0, 90);
        z.reserve(3);
        blocks(z, "0:10:0 10:10:1");
        zeros(z, 1, 10);
    }

    @Sentence(promise = {9, 11, 13, 15, 17, 18}, says = "Two FREE BLOCKS side by side are one.")
    static void freeBlocksBecomeOne() {
        MasterHeap x = heap(20, 20, 4, 4, 4, 4);
        x.drop(1);
        blocks(x, "0:5:1 5:5:0 10:5:3 15:5:4");
        x.drop(2);
        blocks(x, "0:5:1 5:10:0 15:5:4");
        x.drop(0);
        blocks(x, "0:15:0 15:5:4");
        x.drop(3);
        blocks(x, "0:20:0");
        MasterHeap y = heap(20, 20, 4, 4, 4);
        mark(y, 0, 1, 2);
        y.purge(0);
        y.purge(2);
        blocks(y, "0:5:0 5:5:2 10:10:0");
        y.purge(1);
        blocks(y, "0:20:0");
        MasterHeap z = heap(20, 20);
        z.fix(4);
        z.fix(4);
        z.fix(4);
        z.unfix(0);
        z.unfix(2);
        blocks(z, "0:5:0 5:5:34 10:10:0");
        z.unfix(1);
        blocks(z, "0:20:0");
    }

    @Sentence(promise = {9, 15, 18, 19}, says = "Two FREE BLOCKS side by side are one.")
    static void freeCellsBecomeOneWithWhatIsFreeBeside() {
        MasterHeap x = heap(20, 20, 9);
        x.resize(0, 8);
        blocks(x, "0:9:1 9:11:0");
        MasterHeap y = heap(20, 20, 4, 4);
        y.drop(0);
        y.high(1);
        blocks(y, "0:15:0 15:5:2");
        MasterHeap z = heap(20, 20, 4, 4);
        z.reserve(9);
        blocks(z, "0:10:0 10:5:2 15:5:1");
        MasterHeap w = heap(20, 20, 4, 4, 4);
        drop(w, 0);
        w.compact();
        blocks(w, "0:5:2 5:5:3 10:10:0");
    }

    // ---- what a handle is ----

    @Sentence(promise = {22}, says = "A HANDLE is UNUSED, or FULL (it has a BLOCK), or EMPTY (its BLOCK was "
            + "PURGED);")
    static void theThreeKindsOfHandles() {
        MasterHeap x = heap(20, 20);
        for (int h = 0; h <= 7; h++) {
            same("UNUSED: handle(" + h + ", 0)", x.handle(h, 0), 0);
        }
        x.make(4, 0);
        same("FULL: handle(0, 0)", x.handle(0, 0), 1);
        same("count(7)", x.count(7), 2);
        x.mark(0, true);
        same("FULL: handle(0, 0)", x.handle(0, 0), 1);
        x.purge(0);
        same("EMPTY: handle(0, 0)", x.handle(0, 0), 2);
        same("it has no block: count(7)", x.count(7), 1);
        x.remake(0);
        same("FULL: handle(0, 0)", x.handle(0, 0), 1);
        x.drop(0);
        same("UNUSED: handle(0, 0)", x.handle(0, 0), 0);
    }

    @Sentence(promise = {3, 15}, says = "it has a SIZE (CELLS of CONTENTS, 1 to 60),")
    static void sizesGoFrom1To60() {
        for (int size : new int[] {1, 2, 59, 60}) {
            MasterHeap x = heap(200, 200);
            same("make(" + size + ", 0)", x.make(size, 0), 0);
            same("handle(0, 2)", x.handle(0, 2), size);
            same("block(0, 1)", x.block(0, 1), size + 1);
            x.put(0, size - 1, 9);
            same("the last cell of contents: cell(" + size + ")", x.cell(size), 9);
            MasterHeap y = heap(200, 200, 30);
            same("resize(0, " + size + ")", y.resize(0, size), 0);
            same("handle(0, 2)", y.handle(0, 2), size);
        }
        for (int size : new int[] {MIN, -60, -1, 0, 61, 62, 199, MAX}) {
            still(x -> x.start(200, 200), "make(" + size + ", 0)", x -> x.make(size, 0), NONE);
            still(x -> lay(x, 200, 200, 30), "resize(0, " + size + ")", x -> x.resize(0, size), NONE);
        }
    }

    @Sentence(promise = {7, 8, 22}, says = "LOCKS (0 to 7; 0 of an EMPTY one),")
    static void locksGoFrom0To7() {
        MasterHeap x = heap(20, 20, 4);
        same("handle(0, 3)", x.handle(0, 3), 0);
        for (int locks = 1; locks <= 7; locks++) {
            same("lock(0)", x.lock(0), locks);
            same("handle(0, 3)", x.handle(0, 3), locks);
        }
        same("an eighth: lock(0)", x.lock(0), NONE);
        same("handle(0, 3)", x.handle(0, 3), 7);
        for (int locks = 6; locks >= 0; locks--) {
            same("unlock(0)", x.unlock(0), locks);
        }
        same("below 0: unlock(0)", x.unlock(0), NONE);
        x.mark(0, true);
        x.purge(0);
        same("of an EMPTY one: handle(0, 3)", x.handle(0, 3), 0);
        same("of an EMPTY one: lock(0)", x.lock(0), NONE);
        same("of an EMPTY one: unlock(0)", x.unlock(0), NONE);
    }

    @Sentence(promise = {12, 22}, says = "a LEAST (1 to SIZE: it may be SQUEEZED to that),")
    static void leastGoesFrom1ToSize() {
        MasterHeap x = heap(20, 20, 19);
        same("least(0, 0)", x.least(0, 0), NONE);
        same("least(0, 20)", x.least(0, 20), NONE);
        same("none can be squeezed: would(1, 0)", x.would(1, 0), CANNOT);
        same("least(0, 18)", x.least(0, 18), 19);
        noFit(x, 1);
        same("least(0, 17)", x.least(0, 17), 18);
        would(x, 1, 1, 0, 18, 20, 1);
        noFit(x, 2);
        same("least(0, 1)", x.least(0, 1), 17);
        would(x, 17, 1, 0, 2, 20, 1);
        noFit(x, 18);
        same("least(0, 19)", x.least(0, 19), 1);
        noFit(x, 1);
    }

    @Sentence(promise = {3, 22}, says = "a COST (0 to 9),")
    static void costsGoFrom0To9() {
        for (int cost = 0; cost <= 9; cost++) {
            MasterHeap x = heap(20, 20);
            same("make(4, " + cost + ")", x.make(4, cost), 0);
            same("handle(0, 5)", x.handle(0, 5), cost);
        }
        for (int cost : new int[] {MIN, -1, 10, MAX}) {
            still(x -> x.start(20, 20), "make(4, " + cost + ")", x -> x.make(4, cost), NONE);
        }
    }

    @Sentence(promise = {10, 22}, says = "is PURGEABLE or not,")
    static void purgeableOrNot() {
        MasterHeap x = heap(20, 20, 4);
        same("handle(0, 4)", x.handle(0, 4), 0);
        x.mark(0, true);
        same("handle(0, 4)", x.handle(0, 4), 1);
        x.purge(0);
        same("of an EMPTY one: handle(0, 4)", x.handle(0, 4), 1);
        x.mark(0, false);
        same("of an EMPTY one: handle(0, 4)", x.handle(0, 4), 0);
    }

    @Sentence(promise = {3, 6, 22}, says = "and was TOUCHED (CLOCK behind that ACT).")
    static void touchedIsTheClockBehindTheAct() {
        MasterHeap x = heap(20, 20);
        x.make(4, 0);
        same("the first act: handle(0, 6)", x.handle(0, 6), 1);
        same("count(2)", x.count(2), 1);
        x.policy(1);
        x.touch(0);
        same("the third: handle(0, 6)", x.handle(0, 6), 3);
        x.policy(0);
        same("the fourth is none of its own: handle(0, 6)", x.handle(0, 6), 3);
        x.touch(1);
        same("what is refused: handle(0, 6)", x.handle(0, 6), 3);
    }

    @Sentence(promise = {19, 27}, says = "A BLOCK is FIXED, if it is an ISLAND, or LOOSE with any LOCKS.")
    static void fixedAreIslandsAndWhatHasLocks() {
        for (int locks = 0; locks <= 7; locks++) {
            MasterHeap x = heap(20, 20, 4, 4);
            for (int k = 0; k < locks; k++) {
                x.lock(1);
            }
            x.drop(0);
            same("with " + locks + " locks: free(3)", x.free(3), locks == 0 ? 1 : 2);
            same("with " + locks + " locks: compact()", x.compact(), locks == 0 ? 1 : 0);
            same("with " + locks + " locks: handle(1, 1)", x.handle(1, 1), locks == 0 ? 0 : 5);
        }
        MasterHeap y = heap(20, 20);
        y.fix(4);
        y.fix(4);
        y.unfix(0);
        y.compact();
        blocks(y, "0:5:0 5:5:34 10:10:0");
        same("free(3)", y.free(3), 2);
    }

    @Sentence(promise = {13, 34}, says = "CAN GO: a HANDLE that is FULL and PURGEABLE, without LOCKS.")
    static void whoCanGo() {
        MasterHeap x = heap(20, 20, 4);
        same("not PURGEABLE: order(0)", x.order(0), NONE);
        same("not PURGEABLE: purge(0)", x.purge(0), false);
        x.mark(0, true);
        same("order(0)", x.order(0), 0);
        x.lock(0);
        same("with a LOCK: order(0)", x.order(0), NONE);
        same("with a LOCK: purge(0)", x.purge(0), false);
        x.unlock(0);
        same("order(0)", x.order(0), 0);
        same("purge(0)", x.purge(0), true);
        same("EMPTY: order(0)", x.order(0), NONE);
        same("EMPTY: purge(0)", x.purge(0), false);
        x.drop(0);
        same("UNUSED: order(0)", x.order(0), NONE);
        same("UNUSED: purge(0)", x.purge(0), false);
    }

    @Sentence(promise = {28, 29}, says = "CAN BE LESS: one that is FULL, without LOCKS, with a LEAST below SIZE.")
    static void whoCanBeLess() {
        MasterHeap x = heap(20, 20, 19);
        same("LEAST is SIZE: greatest(1)", x.greatest(1), 0);
        x.least(0, 17);
        same("greatest(1)", x.greatest(1), 1);
        would(x, 1, 1, 0, 18, 20, 1);
        x.lock(0);
        same("with a LOCK: greatest(1)", x.greatest(1), 0);
        noFit(x, 1);
        x.unlock(0);
        x.mark(0, true);
        x.purge(0);
        same("EMPTY: greatest(1)", x.greatest(1), 19);
        would(x, 19, 1, 0, 0, 20, 0);
        x.remake(0);
        x.resize(0, 17);
        same("LEAST is SIZE: handle(0, 8)", x.handle(0, 8), 17);
        noFit(made(y -> {
            lay(y, 20, 20, 19);
            y.least(0, 19);
        }), 1);
    }

    // ---- worth ----

    private static void worth(String name, int size, int cost, int policy, int want) {
        MasterHeap x = heap(200, 200);
        x.policy(policy);
        x.make(size, cost);
        same(name + ", size " + size + ", cost " + cost + ": handle(0, 7)", x.handle(0, 7), want);
    }

    @Sentence(promise = {22}, says = "WORTH of a HANDLE by the POLICY: 0 TOUCHED;")
    static void worthByTouch() {
        worth("the first act", 60, 9, 0, 1);
        MasterHeap x = heap(20, 20, 4, 4);
        same("handle(1, 7)", x.handle(1, 7), 2);
        x.touch(0);
        same("handle(0, 7)", x.handle(0, 7), 3);
    }

    @Sentence(promise = {22}, says = "1 COST;")
    static void worthByCost() {
        worth("the least", 60, 0, 1, 0);
        worth("the greatest", 1, 9, 1, 9);
    }

    @Sentence(promise = {22}, says = "2 100 * COST / SIZE, downwards;")
    static void worthByCostOfACell() {
        worth("no cost", 1, 0, 2, 0);
        worth("the greatest", 1, 9, 2, 900);
        worth("the least above 0, downwards", 60, 1, 2, 1);
        worth("downwards", 7, 5, 2, 71);
        worth("downwards", 3, 2, 2, 66);
        worth("even", 5, 2, 2, 40);
        MasterHeap x = heap(20, 20);
        x.policy(2);
        x.make(7, 5);
        x.resize(0, 6);
        same("SIZE is another: handle(0, 7)", x.handle(0, 7), 83);
    }

    @Sentence(promise = {22}, says = "3 1000 less SIZE;")
    static void worthBySize() {
        worth("the least block", 1, 9, 3, 999);
        worth("the greatest block", 60, 0, 3, 940);
    }

    @Sentence(promise = {22}, says = "4 TOUCHED and 4 * COST.")
    static void worthByTouchAndCost() {
        worth("no cost", 9, 0, 4, 2);
        worth("the greatest cost", 9, 9, 4, 38);
        worth("another", 1, 1, 4, 6);
    }

    // ---- start ----

    @Sentence(promise = {2}, says = "START: SIZE and MOST are told; the HEAP is one FREE BLOCK, all HANDLES and "
            + "POINTERS are UNUSED, POLICY, CLOCK and BILL are 0, nothing can be UNDONE.")
    static void startForgetsAll() {
        MasterHeap x = made(Boundaries::rich);
        x.policy(3);
        x.remake(3);
        same("count(4)", x.count(4), 5);
        same("start(30, 45)", x.start(30, 45), true);
        int[] counts = {30, 45, 0, 0, 0, 0, 0, 1};
        for (int what = 0; what <= 7; what++) {
            same("count(" + what + ")", x.count(what), counts[what]);
        }
        blocks(x, "0:30:0");
        zeros(x, 1, 30);
        for (int h = 0; h <= 7; h++) {
            same("handle(" + h + ", 0)", x.handle(h, 0), 0);
        }
        for (int p = 0; p <= 2; p++) {
            same("pointer(" + p + ", 0)", x.pointer(p, 0), NONE);
        }
        same("undo()", x.undo(), NONE);
        same("count(0)", x.count(0), 30);
    }

    @Sentence(promise = {2}, says = "START: SIZE and MOST are told; the HEAP is one FREE BLOCK, all HANDLES and "
            + "POINTERS are UNUSED, POLICY, CLOCK and BILL are 0, nothing can be UNDONE.")
    static void whatIsStartedIsAsNew() {
        Way used = x -> {
            rich(x);
            x.policy(2);
            x.start(33, 44);
        };
        Way fresh = x -> x.start(33, 44);
        same("used or new, all is the same: that", Picture.of(used).equals(Picture.of(fresh)), true);
        Way more = x -> {
            x.make(9, 3);
            x.make(4, 1);
            x.mark(1, true);
            x.fix(5);
        };
        String behindUsed = Picture.of(x -> {
            used.go(x);
            more.go(x);
        });
        String behindFresh = Picture.of(x -> {
            fresh.go(x);
            more.go(x);
        });
        same("and so it goes on: that", behindUsed.equals(behindFresh), true);
    }

    @Sentence(promise = {1}, says = "START with SIZE 64 and MOST 64.")
    static void aNewObjectIsStarted() {
        MasterHeap x = new MasterHeap();
        int[] counts = {64, 64, 0, 0, 0, 0, 0, 1};
        for (int what = 0; what <= 7; what++) {
            same("count(" + what + ")", x.count(what), counts[what]);
        }
        blocks(x, "0:64:0");
        same("undo()", x.undo(), NONE);
        Way none = y -> { };
        same("as by start(64, 64): that", Picture.of(none).equals(Picture.of(y -> y.start(64, 64))), true);
        same("the last size that fits: make(60, 0)", x.make(60, 0), 0);
        same("make(2, 0)", x.make(2, 0), 1);
        same("it can't grow: make(1, 0)", x.make(1, 0), CANNOT);
    }

    @Sentence(promise = {2}, says = "START (SIZE 8 to 200, MOST SIZE to 200): true;")
    static void startTakesTheseSizes() {
        int[][] taken = {{8, 8}, {8, 9}, {8, 200}, {9, 9}, {64, 64}, {64, 65}, {199, 199}, {199, 200}, {200, 200}};
        for (int[] each : taken) {
            MasterHeap x = new MasterHeap();
            same("start(" + each[0] + ", " + each[1] + ")", x.start(each[0], each[1]), true);
            same("count(0)", x.count(0), each[0]);
            same("count(1)", x.count(1), each[1]);
        }
    }

    @Sentence(promise = {2}, says = "false, and nothing happens, without these.")
    static void startRefusesOthers() {
        int[][] refused = {{7, 7}, {7, 8}, {7, 200}, {0, 0}, {-1, 64}, {9, 8}, {64, 63}, {200, 199}, {8, 201},
            {200, 201}, {201, 201}, {201, 200}, {64, -1}, {-8, 8}, {MIN, MAX}, {MAX, MAX}, {MIN, MIN}, {MAX, MIN}};
        Way ahead = Boundaries::rich;
        for (int[] each : refused) {
            still(ahead, "start(" + each[0] + ", " + each[1] + ")", x -> bit(x.start(each[0], each[1])), 0);
        }
    }
}
