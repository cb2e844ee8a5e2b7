/** What is asked of the heap as it is: its answers at their edges, and that nothing changes by them. */
final class AskBoundaries extends Boundaries {
    private static final Way RICH = Boundaries::rich;

    private AskBoundaries() {
    }

    @Sentence(promise = {22, 23, 24, 25, 26, 27, 33, 34, 35, 36}, says = "(By what is asked nothing changes.)")
    static void nothingChangesByWhatIsAsked() {
        still(RICH, "handle(0, 1)", x -> x.handle(0, 1), 30);
        still(RICH, "get(0, 0)", x -> x.get(0, 0), 70);
        still(RICH, "pointer(0, 0)", x -> x.pointer(0, 0), 0);
        still(RICH, "cell(31)", x -> x.cell(31), 70);
        still(RICH, "block(1, 1)", x -> x.block(1, 1), 6);
        still(RICH, "free(3)", x -> x.free(3), 2);
        still(RICH, "after(1)", x -> x.after(1), 31);
        still(RICH, "order(0)", x -> x.order(0), NONE);
        still(RICH, "torn(0, 0)", x -> x.torn(0, 0), 0);
        still(RICH, "count(5)", x -> x.count(5), 1);
    }

    // ---- handle, get, pointer ----

    @Sentence(promise = {22}, says = "Of a HANDLE what 0: 0 UNUSED, 1 FULL, 2 EMPTY; 1: where its BLOCK lies "
            + "(NONE: EMPTY); 2: SIZE; 3: LOCKS; 4: 1 if PURGEABLE, else 0; 5: COST; 6: TOUCHED; 7: WORTH; 8: "
            + "LEAST.")
    static void allOfAHandle() {
        MasterHeap x = made(RICH);
        int[][] due = {{1, 30, 9, 0, 0, 3, 5, 5, 9}, {1, 10, 4, 1, 0, 1, 12, 12, 4}, {1, 15, 4, 0, 0, 2, 8, 8, 2},
            {2, NONE, 5, 0, 1, 5, 4, 4, 5}};
        for (int h = 0; h < due.length; h++) {
            for (int what = 0; what <= 8; what++) {
                same("handle(" + h + ", " + what + ")", x.handle(h, what), due[h][what]);
            }
        }
        MasterHeap y = made(Boundaries::eight);
        lock(y, 7, 7, 7, 7, 7, 7, 7);
        same("the last of all: handle(7, 1)", y.handle(7, 1), 14);
        same("handle(7, 3)", y.handle(7, 3), 7);
    }

    @Sentence(promise = {22}, says = "NONE without these (of an UNUSED one: what 0 alone).")
    static void handleWithoutThese() {
        for (int h : new int[] {MIN, -1, 8, 9, 10, 11, MAX}) {
            for (int what : new int[] {-1, 0, 1, 8, 9}) {
                still(RICH, "handle(" + h + ", " + what + ")", x -> x.handle(h, what), NONE);
            }
        }
        for (int h = 8; h <= 10; h++) {
            same("a pointer is no handle: handle(" + h + ", 1)", made(Boundaries::islands).handle(h, 1), NONE);
        }
        for (int h : new int[] {4, 7}) {
            still(RICH, "handle(" + h + ", 0)", x -> x.handle(h, 0), 0);
            for (int what : new int[] {MIN, -1, 1, 2, 3, 4, 5, 6, 7, 8, 9, MAX}) {
                still(RICH, "handle(" + h + ", " + what + ")", x -> x.handle(h, what), NONE);
            }
        }
        for (int h : new int[] {0, 3}) {
            for (int what : new int[] {MIN, -1, 9, 10, MAX}) {
                still(RICH, "handle(" + h + ", " + what + ")", x -> x.handle(h, what), NONE);
            }
        }
    }

    @Sentence(promise = {22}, says = "NONE without these (of an UNUSED one: what 0 alone).")
    static void ofOneThatWasUsedOnceThereIsNothing() {
        MasterHeap x = made(RICH);
        lock(x, 0);
        x.unlock(0);
        x.drop(0);
        same("handle(0, 0)", x.handle(0, 0), 0);
        for (int what = 1; what <= 8; what++) {
            same("handle(0, " + what + ")", x.handle(0, what), NONE);
        }
    }

    @Sentence(promise = {23}, says = "The k-th CELL of the CONTENTS of a HANDLE;")
    static void theCellsOfContents() {
        MasterHeap x = heap(200, 200, 60, 1);
        fill(x, 0, 100);
        x.put(1, 0, MIN);
        filled(x, 0, 100, 60);
        same("the one cell: get(1, 0)", x.get(1, 0), MIN);
        x.high(0);
        filled(x, 0, 100, 60);
    }

    @Sentence(promise = {23}, says = "0 without these.")
    static void getWithoutThese() {
        for (int k : new int[] {MIN, -1, 7, 8, 59, 60, MAX}) {
            still(Boundaries::full, "get(0, " + k + ")", x -> x.get(0, k), 0);
        }
        same("the first: get(0, 0)", made(Boundaries::full).get(0, 0), 30);
        same("the last: get(0, 6)", made(Boundaries::full).get(0, 6), 36);
        Way islands = x -> {
            islands(x);
            x.set(0, 0, 5);
            x.set(1, 0, 6);
            x.set(2, 0, 7);
        };
        for (int h : new int[] {MIN, -3, -1, 0, 7, 8, 9, 10, 11, MAX}) {
            still(islands, "get(" + h + ", 0)", x -> x.get(h, 0), 0);
        }
        Way purged = x -> {
            full(x);
            mark(x, 0);
            x.purge(0);
        };
        still(purged, "EMPTY: get(0, 0)", x -> x.get(0, 0), 0);
        Way dropped = x -> {
            full(x);
            x.drop(0);
        };
        still(dropped, "UNUSED: get(0, 0)", x -> x.get(0, 0), 0);
    }

    @Sentence(promise = {24}, says = "Of a POINTER what 0: where its ISLAND lies, 1: its SIZE.")
    static void allOfAPointer() {
        MasterHeap x = heap(200, 200);
        x.fix(1);
        x.fix(60);
        x.fix(3);
        int[][] due = {{0, 1}, {2, 60}, {63, 3}};
        for (int p = 0; p <= 2; p++) {
            same("pointer(" + p + ", 0)", x.pointer(p, 0), due[p][0]);
            same("pointer(" + p + ", 1)", x.pointer(p, 1), due[p][1]);
        }
    }

    @Sentence(promise = {24}, says = "NONE without these.")
    static void pointerWithoutThese() {
        for (int what : new int[] {MIN, -1, 2, 3, MAX}) {
            still(RICH, "pointer(0, " + what + ")", x -> x.pointer(0, what), NONE);
        }
        for (int p : new int[] {MIN, -8, -1, 1, 2, 3, 8, MAX}) {
            still(RICH, "pointer(" + p + ", 0)", x -> x.pointer(p, 0), NONE);
            still(RICH, "pointer(" + p + ", 1)", x -> x.pointer(p, 1), NONE);
        }
        Way gone = x -> {
            rich(x);
            x.unfix(0);
        };
        still(gone, "UNUSED again: pointer(0, 0)", x -> x.pointer(0, 0), NONE);
        still(gone, "UNUSED again: pointer(0, 1)", x -> x.pointer(0, 1), NONE);
        for (int p = -8; p <= -1; p++) {
            same("a handle is no pointer: pointer(" + p + ", 0)", made(Boundaries::eight).pointer(p, 0), NONE);
        }
    }

    // ---- cell, block, free ----

    @Sentence(promise = {25}, says = "A CELL of the HEAP;")
    static void theCellsOfTheHeap() {
        MasterHeap x = made(RICH);
        int[] headers = {0, 4 * 64 + 33, 4, 6 * 64, 10, 5 * 64 + 2, 15, 5 * 64 + 3, 20, 10 * 64, 30, 10 * 64 + 1};
        for (int k = 0; k < headers.length; k += 2) {
            same("cell(" + headers[k] + ")", x.cell(headers[k]), headers[k + 1]);
        }
        same("cell(14)", x.cell(14), 71);
        same("cell(17)", x.cell(17), 72);
        same("cell(31)", x.cell(31), 70);
        MasterHeap full = made(Boundaries::full);
        same("the last: cell(7)", full.cell(7), 36);
    }

    @Sentence(promise = {25}, says = "0 without it.")
    static void cellWithoutIt() {
        for (int k : new int[] {MIN, -64, -1, 8, 9, 63, 200, MAX}) {
            still(Boundaries::full, "cell(" + k + ")", x -> x.cell(k), 0);
        }
        Way canGrow = x -> lay(x, 20, 40, 9);
        still(canGrow, "below MOST: cell(20)", x -> x.cell(20), 0);
        still(canGrow, "MOST: cell(40)", x -> x.cell(40), 0);
    }

    @Sentence(promise = {26}, says = "The k-th BLOCK (0 the first) what 0: where it begins, 1: LENGTH, 2: OWNER.")
    static void theBlocks() {
        MasterHeap x = made(RICH);
        int[][] due = {{0, 4, 33}, {4, 6, 0}, {10, 5, 2}, {15, 5, 3}, {20, 10, 0}, {30, 10, 1}};
        for (int k = 0; k < due.length; k++) {
            for (int what = 0; what <= 2; what++) {
                same("block(" + k + ", " + what + ")", x.block(k, what), due[k][what]);
            }
        }
        MasterHeap empty = heap(200, 200);
        same("an empty heap: block(0, 0)", empty.block(0, 0), 0);
        same("an empty heap: block(0, 1)", empty.block(0, 1), 200);
        same("an empty heap: block(0, 2)", empty.block(0, 2), 0);
        MasterHeap full = made(Boundaries::full);
        same("a full heap: block(0, 1)", full.block(0, 1), 8);
        same("a full heap: block(0, 2)", full.block(0, 2), 1);
        MasterHeap last = heap(8, 8, 6);
        same("of one cell: block(1, 1)", last.block(1, 1), 1);
    }

    @Sentence(promise = {26}, says = "NONE without these.")
    static void blockWithoutThese() {
        for (int k : new int[] {MIN, -1, 6, 7, 40, MAX}) {
            for (int what = 0; what <= 2; what++) {
                int asked = what;
                still(RICH, "block(" + k + ", " + what + ")", x -> x.block(k, asked), NONE);
            }
        }
        for (int what : new int[] {MIN, -1, 3, MAX}) {
            still(RICH, "block(0, " + what + ")", x -> x.block(0, what), NONE);
        }
        same("an empty heap: block(1, 0)", heap(8, 8).block(1, 0), NONE);
        same("a full heap: block(1, 0)", made(Boundaries::full).block(1, 0), NONE);
    }

    private static void free(String name, MasterHeap x, int... want) {
        for (int what = 0; what <= 3; what++) {
            same(name + ": free(" + what + ")", x.free(what), want[what]);
        }
    }

    @Sentence(promise = {27}, says = "What 0: FREE CELLS, together (HEADERS, too), 1: the greatest LENGTH of a "
            + "FREE BLOCK (0 without any), 2: FREE BLOCKS, 3: GAPS.")
    static void whatIsFree() {
        free("an empty heap", heap(8, 200), 8, 8, 1, 1);
        free("the greatest", heap(200, 200), 200, 200, 1, 1);
        free("a full heap", made(Boundaries::full), 0, 0, 0, 1);
        free("one cell", heap(8, 8, 6), 1, 1, 1, 1);
        free("several", made(RICH), 16, 10, 2, 2);
        free("the greatest is not the last", made(Boundaries::gaps), 15, 5, 3, 3);
        MasterHeap fixed = made(Boundaries::full);
        fixed.lock(0);
        free("a full heap, fixed", fixed, 0, 0, 0, 0);
        MasterHeap first = heap(20, 20, 9, 4);
        first.drop(0);
        free("the greatest is the first", first, 15, 10, 2, 1);
        MasterHeap islands = made(Boundaries::islands);
        free("behind islands", islands, 58, 58, 1, 1);
        islands.unfix(1);
        free("between islands", islands, 60, 58, 2, 2);
    }

    /** As many blocks as there can be: each of 8 handles and 3 islands between free ones. */
    private static void mostBlocks(MasterHeap x) {
        x.start(200, 200);
        for (int h = 0; h < 3; h++) {
            x.make(1, 0);
            x.lock(h);
            x.fix(4);
        }
        for (int h = 0; h < 3; h++) {
            x.unlock(h);
            x.drop(h);
        }
        for (int h = 0; h < 8; h++) {
            x.make(3, 0);
        }
        x.drop(0);
        x.make(60, 0);
        for (int h = 1; h < 8; h++) {
            x.resize(h, 1);
            x.lock(h);
        }
        x.lock(0);
    }

    @Sentence(promise = {27}, says = "2: FREE BLOCKS, 3: GAPS.")
    static void asManyAsThereCanBe() {
        MasterHeap x = made(AskBoundaries::mostBlocks);
        free("as many blocks as there can be", x, 200 - 3 * 5 - 7 * 2 - 61, 86, 12, 12);
        same("count(7)", x.count(7), 23);
        same("block(22, 0)", x.block(22, 0), 114);
        same("block(23, 0)", x.block(23, 0), NONE);
    }

    @Sentence(promise = {27}, says = "NONE for others.")
    static void freeForOthers() {
        for (int what : new int[] {MIN, -1, 4, 5, MAX}) {
            still(RICH, "free(" + what + ")", x -> x.free(what), NONE);
        }
    }

    // ---- after ----

    @Sentence(promise = {33}, says = "AFTER of a CELL: the one that was CONTENTS of a HANDLE ahead of the last "
            + "ACT: where it is now, as the HANDLE goes.")
    static void whereACellHasGone() {
        // 0:10:1 10:5:2 15:5:3 ahead of the last act; handle 0 has gone from 0 to 30
        MasterHeap x = made(RICH);
        for (int k = 1; k <= 9; k++) {
            same("after(" + k + ")", x.after(k), 30 + k);
        }
        for (int k = 11; k <= 14; k++) {
            same("where it was: after(" + k + ")", x.after(k), k);
        }
        x.undo();
        x.compact();
        same("where it was: after(9)", x.after(9), 9);
        // longer, elsewhere: its cells are with it
        MasterHeap longer = heap(30, 30, 4, 4);
        longer.resize(0, 9);
        blocks(longer, "0:5:0 5:5:2 10:10:1 20:10:0");
        same("the first: after(1)", longer.after(1), 11);
        same("the last: after(4)", longer.after(4), 14);
        same("none yet: after(5)", longer.after(5), NONE);
        // it slides, and a new block lies where it was
        MasterHeap slid = heap(15, 15, 4, 4);
        slid.drop(0);
        slid.make(9, 0);
        blocks(slid, "0:5:2 5:10:1");
        same("after(6)", slid.after(6), 1);
        same("after(9)", slid.after(9), 4);
    }

    @Sentence(promise = {33}, says = "AFTER; -2: it is gone (its HANDLE is not FULL any more, or has fewer);")
    static void whatIsGone() {
        Way two = x -> lay(x, 20, 20, 4, 4);
        MasterHeap dropped = made(two);
        dropped.drop(1);
        same("let go: after(6)", dropped.after(6), CANNOT);
        same("let go: after(9)", dropped.after(9), CANNOT);
        same("the other: after(1)", dropped.after(1), 1);
        MasterHeap purged = made(two);
        mark(purged, 0);
        same("marked only: after(1)", purged.after(1), 1);
        purged.purge(0);
        same("purged: after(1)", purged.after(1), CANNOT);
        MasterHeap fewer = made(two);
        fewer.resize(0, 2);
        same("it has that: after(2)", fewer.after(2), 2);
        same("it has fewer: after(3)", fewer.after(3), CANNOT);
        same("it has fewer: after(4)", fewer.after(4), CANNOT);
        MasterHeap squeezed = heap(20, 20, 9, 9);
        squeezed.least(0, 4);
        squeezed.make(4, 0);
        same("it has that: after(4)", squeezed.after(4), 4);
        same("squeezed: after(5)", squeezed.after(5), CANNOT);
        MasterHeap byFit = heap(20, 20, 9, 9);
        mark(byFit, 0);
        byFit.make(9, 0);
        same("thrown away, another lies there: after(1)", byFit.after(1), CANNOT);
    }

    @Sentence(promise = {33}, says = "NONE: CELL k was none of the CONTENTS of a HANDLE")
    static void whatWasNoContents() {
        for (int k : new int[] {MIN, -1, 0, 10, 15, 20, 39, 40, 59, 60, 199, 200, MAX}) {
            still(RICH, "after(" + k + ")", x -> x.after(k), NONE);
        }
        // ahead of the last act handle 3 was EMPTY: its old cells are none
        for (int k = 20; k <= 29; k++) {
            same("after(" + k + ")", made(RICH).after(k), NONE);
        }
        MasterHeap island = made(Boundaries::islands);
        island.touch(0);
        same("of an island: after(1)", island.after(1), NONE);
        island.set(0, 0, 5);
        same("of an island: after(1)", island.after(1), NONE);
        MasterHeap first = heap(20, 20, 4);
        same("the block is new: after(1)", first.after(1), NONE);
        mark(first, 0);
        first.purge(0);
        first.remake(0);
        same("it was EMPTY: after(1)", first.after(1), NONE);
    }

    @Sentence(promise = {33}, says = "(or no ACT was done since START, or behind what is UNDONE).")
    static void noActNoAfter() {
        same("a new object: after(1)", new MasterHeap().after(1), NONE);
        MasterHeap x = heap(20, 20, 4, 4);
        same("after(1)", x.after(1), 1);
        x.start(20, 20);
        same("behind START: after(1)", x.after(1), NONE);
        MasterHeap y = heap(20, 20, 4, 4);
        y.touch(0);
        y.undo();
        same("behind what is UNDONE: after(1)", y.after(1), NONE);
        same("what is refused is no ACT: touch(7)", y.touch(7), false);
        same("after(1)", y.after(1), NONE);
        y.touch(0);
        same("an ACT: after(1)", y.after(1), 1);
        same("what is refused is no ACT: touch(7)", y.touch(7), false);
        same("after(1)", y.after(1), 1);
        same("an UNDO that is refused", new MasterHeap().undo(), NONE);
        MasterHeap z = heap(20, 20, 4);
        z.start(7, 7);
        z.touch(0);
        same("a START that is refused: after(1)", z.after(1), 1);
    }

    // ---- order ----

    private static void order(MasterHeap x, int... want) {
        for (int k = 0; k < want.length; k++) {
            same("order(" + k + ")", x.order(k), want[k]);
        }
        same("order(" + want.length + ")", x.order(want.length), NONE);
    }

    @Sentence(promise = {34}, says = "ORDER: those that CAN GO, by WORTH, of like ones the least first.")
    static void theOrder() {
        Way five = x -> {
            int[] costs = {5, 2, 5, 2, 9};
            x.start(64, 64);
            for (int h = 0; h < 5; h++) {
                x.make(3 + h, costs[h]);
            }
            mark(x, 4, 3, 2, 1, 0);
        };
        order(made(five), 0, 1, 2, 3, 4);
        MasterHeap x = made(five);
        x.touch(0);
        order(x, 1, 2, 3, 4, 0);
        x.policy(1);
        order(x, 1, 3, 0, 2, 4);
        x.policy(2);
        order(x, 3, 1, 2, 4, 0);
        x.policy(3);
        order(x, 4, 3, 2, 1, 0);
        x.policy(4);
        order(x, 1, 3, 2, 0, 4);
        x.lock(3);
        x.purge(2);
        x.mark(1, false);
        order(x, 0, 4);
        MasterHeap all = made(Boundaries::eight);
        mark(all, 0, 1, 2, 3, 4, 5, 6, 7);
        all.policy(1);
        order(all, 0, 1, 2, 3, 4, 5, 6, 7);
    }

    @Sentence(promise = {34}, says = "The k-th of the ORDER (0 the first);")
    static void theFirstAndTheLastOfTheOrder() {
        MasterHeap all = made(Boundaries::eight);
        mark(all, 0, 1, 2, 3, 4, 5, 6, 7);
        all.touch(0);
        same("order(0)", all.order(0), 1);
        same("order(7)", all.order(7), 0);
    }

    @Sentence(promise = {34}, says = "NONE without it.")
    static void orderWithoutIt() {
        Way all = x -> {
            eight(x);
            mark(x, 0, 1, 2, 3, 4, 5, 6, 7);
        };
        for (int k : new int[] {MIN, -1, 8, 9, MAX}) {
            still(all, "order(" + k + ")", x -> x.order(k), NONE);
        }
        same("none can go: order(0)", made(Boundaries::eight).order(0), NONE);
        same("an empty heap: order(0)", new MasterHeap().order(0), NONE);
    }

    // ---- torn ----

    /** 0:4:33 4:6:0 10:5:2 15:5:3 20:10:0 30:10:1: each header as another number. */
    private static void torn(int k, int v, int want) {
        still(RICH, "torn(" + k + ", " + v + ")", x -> x.torn(k, v), want);
    }

    @Sentence(promise = {35}, says = "TORN, if one CELL were another number: one goes along the HEADERS from CELL "
            + "0 on:")
    static void oneGoesAlongTheHeaders() {
        int[] headers = {0, 4, 10, 15, 20, 30};
        for (int k : headers) {
            int own = made(RICH).cell(k);
            torn(k, own, NONE);
        }
        for (int k : new int[] {1, 3, 5, 9, 11, 14, 16, 19, 21, 29, 31, 39}) {
            torn(k, 0, NONE);
            torn(k, MIN, NONE);
            torn(k, MAX, NONE);
        }
        // a free one that is longer leads over a header; one that is shorter leads into what is free
        torn(4, 64 * 11, NONE);
        torn(4, 64 * 16, 20);
        torn(4, 64 * 26, NONE);
        torn(4, 64 * 36, NONE);
        torn(4, 64 * 5, 9);
    }

    @Sentence(promise = {35}, says = "one is TORN, if it is below 64,")
    static void below64() {
        for (int k : new int[] {0, 4, 10, 15, 20, 30}) {
            torn(k, 63, k);
            torn(k, 33, k);
            torn(k, 1, k);
            torn(k, 0, k);
            torn(k, -1, k);
            torn(k, -64, k);
            torn(k, MIN, k);
        }
        // 64 is a free one of one cell
        MasterHeap x = heap(8, 8, 6);
        same("torn(7, 64)", x.torn(7, 64), NONE);
        same("torn(7, 63)", x.torn(7, 63), 7);
    }

    @Sentence(promise = {35}, says = "its LENGTH goes beyond SIZE,")
    static void beyondSize() {
        torn(4, 64 * 36, NONE);
        torn(4, 64 * 37, 4);
        torn(20, 64 * 20, NONE);
        torn(20, 64 * 21, 20);
        torn(30, 64 * 11 + 1, 30);
        torn(0, 64 * 40, NONE);
        torn(0, 64 * 41, 0);
        torn(20, MAX, 20);
        torn(20, MAX - 63, 20);
        // below MOST is beyond SIZE all the same
        Way canGrow = x -> x.start(20, 40);
        still(canGrow, "torn(0, 64 * 20)", x -> x.torn(0, 64 * 20), NONE);
        still(canGrow, "torn(0, 64 * 21)", x -> x.torn(0, 64 * 21), 0);
    }

    @Sentence(promise = {35}, says = "its OWNER is none that there is,")
    static void noSuchOwner() {
        // all the islands and handles there can be, of 2 cells each, side by side; then cells that are FREE
        Way all = x -> {
            x.start(40, 40);
            islands(x);
            for (int h = 0; h < 8; h++) {
                x.make(1, 0);
            }
        };
        for (int at = 0; at < 22; at += 2) {
            MasterHeap x = made(all);
            int own = at < 6 ? 33 + at / 2 : 1 + (at - 6) / 2;
            for (int owner = 1; owner < 64; owner++) {
                same("owner " + owner + ": torn(" + at + ")", x.torn(at, 128 + owner), owner == own ? NONE : at);
            }
            same("FREE: torn(" + at + ")", x.torn(at, 128), at < 20 ? NONE : 22);
        }
    }

    @Sentence(promise = {35}, says = "it is FREE behind a FREE one,")
    static void freeBehindFree() {
        // 4 and 20 are FREE: one behind is TORN, if it is FREE; one ahead makes them so
        torn(10, 64 * 5, 10);
        torn(30, 64 * 10, 30);
        torn(15, 64 * 5, 20);
        torn(0, 64 * 4, 4);
        // not side by side
        torn(0, 64 * 10, NONE);
        torn(15, 64 * 15, NONE);
        MasterHeap x = heap(20, 20, 4, 4, 4);
        same("no FREE one beside it: torn(5)", x.torn(5, 64 * 5), NONE);
        same("the first of all: torn(0)", x.torn(0, 64 * 5), NONE);
        same("the last but one: torn(10)", x.torn(10, 64 * 5), 15);
    }

    @Sentence(promise = {35}, says = "or it is of a HANDLE or POINTER whose BLOCK lies elsewhere or has another "
            + "LENGTH (as they truly lie);")
    static void ofAnother() {
        torn(10, 64 * 5 + 3, 10);
        torn(10, 64 * 5 + 1, 10);
        torn(15, 64 * 5 + 2, 15);
        torn(10, 64 * 4 + 2, 10);
        torn(10, 64 * 6 + 2, 10);
        torn(10, 64 * 10 + 2, 10);
        torn(0, 64 * 3 + 33, 0);
        torn(0, 64 * 5 + 33, 0);
        torn(0, 64 * 4 + 34, 0);
        torn(10, 64 * 5 + 33, 10);
        torn(4, 64 * 6 + 33, 4);
        // an EMPTY one's, an UNUSED one's
        torn(10, 64 * 5 + 4, 10);
        torn(4, 64 * 6 + 4, 4);
        torn(10, 64 * 5 + 5, 10);
        torn(4, 64 * 6 + 8, 4);
        torn(4, 64 * 6 + 35, 4);
        // contents that look like a header are one, if the walk leads there: its block lies elsewhere
        Way looks = x -> {
            rich(x);
            x.put(1, 0, 64 * 4 + 2);
            x.put(2, 0, 64 * 4 + 3);
        };
        still(looks, "torn(4, 64 * 7)", x -> x.torn(4, 64 * 7), 11);
        still(looks, "torn(4, 64 * 12)", x -> x.torn(4, 64 * 12), 16);
    }

    @Sentence(promise = {35}, says = "the first that is TORN.")
    static void theFirstThatIsTorn() {
        // of another: what lies behind is not looked at
        torn(0, 0, 0);
        // the walk goes wrong here, and is found there
        torn(4, 64 * 1, 5);
        torn(4, 64 * 7, 11);
        torn(20, 64 * 9, 29);
        torn(20, 64 * 11, 31);
    }

    @Sentence(promise = {35}, says = "TORN, if CELL k were v: where that HEADER is; NONE: none is;")
    static void tornAnswersWhere() {
        torn(0, 0, 0);
        torn(30, 0, 30);
        torn(39, 0, NONE);
        same("an empty heap: torn(0, 512)", heap(8, 8).torn(0, 512), NONE);
        same("an empty heap: torn(0, 511)", heap(8, 8).torn(0, 511), 0);
        same("an empty heap: torn(0, 448)", heap(8, 8).torn(0, 448), 7);
        same("a full heap: torn(0)", made(Boundaries::full).torn(0, 64 * 8 + 1), NONE);
        same("a full heap, as if it were FREE: torn(0)", made(Boundaries::full).torn(0, 64 * 8), NONE);
    }

    @Sentence(promise = {35}, says = "-2: there is no such CELL.")
    static void tornWithoutACell() {
        for (int k : new int[] {MIN, -1, 40, 41, 59, 60, 200, MAX}) {
            torn(k, 0, CANNOT);
            torn(k, 64, CANNOT);
        }
    }

    // ---- count ----

    @Sentence(promise = {36}, says = "What 0: SIZE, 1: MOST, 2: CLOCK, 3: POLICY, 4: BILL, 5: MOVED, 6: ACTS that "
            + "can be UNDONE, 7: BLOCKS.")
    static void theCounts() {
        int[] due = {40, 60, 13, 0, 0, 1, 12, 6};
        for (int what = 0; what <= 7; what++) {
            same("count(" + what + ")", made(RICH).count(what), due[what]);
        }
        MasterHeap x = made(RICH);
        x.policy(4);
        x.remake(3);
        int[] then = {40, 60, 15, 4, 5, 0, 12, 6};
        for (int what = 0; what <= 7; what++) {
            same("count(" + what + ")", x.count(what), then[what]);
        }
    }

    @Sentence(promise = {36}, says = "NONE for others.")
    static void countForOthers() {
        for (int what : new int[] {MIN, -1, 8, 9, MAX}) {
            still(RICH, "count(" + what + ")", x -> x.count(what), NONE);
        }
    }
}
