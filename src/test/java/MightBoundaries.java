/** What is asked of what might be: WOULD, GREATEST, FEWEST, THREE, CHEAPEST. */
final class MightBoundaries extends Boundaries {
    private static final Way RICH = Boundaries::rich;
    private static final int[] NO_SIZES = {MIN, -1, 0, 200, 201, MAX};

    private MightBoundaries() {
    }

    /** A heap by which every step is taken: it slides, grows, squeezes handle 3, purges handles 2 and 4. */
    private static void busy(MasterHeap x) {
        lay(x, 40, 50, 4, 4, 9, 9, 2);
        fill(x, 1, 10);
        x.least(3, 2);
        mark(x, 2, 4);
        x.drop(0);
    }

    @Sentence(promise = {28, 29, 30, 31, 32}, says = "(By what is asked nothing changes.)")
    static void nothingChangesByWhatMightBe() {
        Way busy = MightBoundaries::busy;
        still(busy, "would(41, 1)", x -> x.would(41, 1), 4 + 16);
        still(busy, "would(42, 1)", x -> x.would(42, 1), CANNOT);
        still(busy, "greatest(2)", x -> x.greatest(2), 41);
        still(busy, "fewest(31, 1)", x -> x.fewest(31, 1), 4);
        still(busy, "three(9, 5, 3)", x -> bit(x.three(9, 5, 3)), 1);
        still(busy, "cheapest(19, 1)", x -> x.cheapest(19, 1), 16);
    }

    // ---- would ----

    @Sentence(promise = {28}, says = "WOULD: FIT of a SIZE and 1, as for a new BLOCK.")
    static void asForANewBlock() {
        same("all of the heap: would(7, 0)", heap(8, 8).would(7, 0), 1);
        same("one more: would(8, 0)", heap(8, 8).would(8, 0), CANNOT);
        // no HANDLE is wanted for it, and no block of less than 61 cells
        would(made(Boundaries::eight), 40, 1, 0, 16, 64, 0);
        would(made(Boundaries::eight), 47, 1, 0, 16, 64, 0);
        noFit(made(Boundaries::eight), 48);
        would(heap(200, 200), 61, 1, 0, 0, 200, 0);
        // as make does it then
        for (int size = 1; size <= 43; size++) {
            MasterHeap x = made(MightBoundaries::busy);
            int place = x.would(size, 2);
            int grown = x.would(size, 3);
            int made = x.make(size, 0);
            same("make(" + size + ", 0)", made, place == CANNOT ? CANNOT : 0);
            if (place != CANNOT) {
                same("handle(0, 1)", x.handle(0, 1), place);
                same("count(0)", x.count(0), grown);
            }
        }
    }

    @Sentence(promise = {28}, says = "WOULD (SIZE 1 to 199) what 0: by which of 1 to 4 at last,")
    static void byWhichStep() {
        same("the least: would(1, 0)", heap(8, 8).would(1, 0), 1);
        same("the greatest: would(199, 0)", heap(200, 200).would(199, 0), 1);
        same("the greatest, by growing: would(199, 0)", heap(8, 200).would(199, 0), 3);
        same("one short: would(199, 0)", heap(199, 199).would(199, 0), CANNOT);
        MasterHeap x = made(Boundaries::steps);
        int[] last = {4, 9, 10, 15};
        int step = 1;
        for (int size = 1; size <= 15; size++) {
            while (size > last[step - 1]) {
                step++;
            }
            same("would(" + size + ", 0)", x.would(size, 0), step);
        }
        // it is what was there at last, not what was tried ahead of a squeeze
        MasterHeap squeezed = heap(20, 20, 9, 9);
        squeezed.least(0, 4);
        same("would(4, 0)", squeezed.would(4, 0), 1);
    }

    @Sentence(promise = {28}, says = "1: HANDLES that would be PURGED, as bits,")
    static void whichWouldBePurged() {
        Way all = x -> {
            lay(x, 16, 16, 1, 1, 1, 1, 1, 1, 1, 1);
            mark(x, 0, 1, 2, 3, 4, 5, 6, 7);
        };
        same("one: would(1, 1)", made(all).would(1, 1), 1);
        same("two: would(2, 1)", made(all).would(2, 1), 3);
        same("all: would(15, 1)", made(all).would(15, 1), 255);
        same("not all: would(13, 1)", made(all).would(13, 1), 127);
        MasterHeap last = made(all);
        last.policy(1);
        for (int h = 0; h < 7; h++) {
            last.lock(h);
        }
        same("the last: would(1, 1)", last.would(1, 1), 128);
        same("none: would(1, 1)", new MasterHeap().would(1, 1), 0);
    }

    @Sentence(promise = {28}, says = "2: where the BLOCK would lie,")
    static void whereItWouldLie() {
        same("the first cell: would(1, 2)", heap(8, 8).would(1, 2), 0);
        same("the last two: would(1, 2)", heap(8, 8, 5).would(1, 2), 6);
        same("what it grows by: would(1, 2)", heap(8, 10, 7).would(1, 2), 8);
        same("slid: would(9, 2)", made(Boundaries::steps).would(9, 2), 5);
    }

    @Sentence(promise = {28}, says = "3: SIZE of the HEAP then,")
    static void theSizeThen() {
        same("as it is: would(7, 3)", heap(8, 200).would(7, 3), 8);
        same("one more: would(8, 3)", heap(8, 200).would(8, 3), 9);
        same("MOST: would(199, 3)", heap(8, 200).would(199, 3), 200);
        same("grown in vain: would(11, 3)", made(Boundaries::steps).would(11, 3), 36);
        MasterHeap x = heap(8, 200);
        x.would(199, 3);
        same("it has not grown: count(0)", x.count(0), 8);
    }

    @Sentence(promise = {28}, says = "4: HANDLES that would be SQUEEZED, as bits (PURGED then, too);")
    static void whichWouldBeSqueezed() {
        Way all = x -> {
            lay(x, 24, 24, 2, 2, 2, 2, 2, 2, 2, 2);
            for (int h = 0; h < 8; h++) {
                x.least(h, 1);
            }
        };
        same("two: would(1, 4)", made(all).would(1, 4), 3);
        same("three: would(2, 4)", made(all).would(2, 4), 7);
        same("all: would(7, 4)", made(all).would(7, 4), 255);
        noFit(made(all), 8);
        same("none: would(1, 4)", new MasterHeap().would(1, 4), 0);
        // squeezed, and purged then
        MasterHeap both = heap(20, 20, 9, 9);
        both.least(0, 4);
        mark(both, 0);
        would(both, 9, 2, 1, 10, 20, 1);
        // purged, and not squeezed
        MasterHeap purged = heap(20, 20, 9, 9);
        mark(purged, 0);
        would(purged, 9, 1, 1, 0, 20, 0);
    }

    @Sentence(promise = {28}, says = "-2: there is no FIT.")
    static void wouldWithoutAFit() {
        for (int what = 0; what <= 4; what++) {
            int asked = what;
            still(Boundaries::full, "a full heap: would(1, " + what + ")", x -> x.would(1, asked), CANNOT);
            still(RICH, "would(199, " + what + ")", x -> x.would(199, asked), CANNOT);
        }
        noFit(heap(8, 8, 6), 1);
        would(heap(8, 8, 5), 1, 1, 0, 6, 8, 0);
        noFit(heap(8, 8, 5), 2);
    }

    @Sentence(promise = {28}, says = "NONE without these.")
    static void wouldWithoutThese() {
        for (int size : NO_SIZES) {
            for (int what = 0; what <= 4; what++) {
                int asked = what;
                still(RICH, "would(" + size + ", " + what + ")", x -> x.would(size, asked), NONE);
            }
        }
        for (int what : new int[] {MIN, -1, 5, 6, MAX}) {
            still(RICH, "would(1, " + what + ")", x -> x.would(1, what), NONE);
            still(RICH, "no FIT, but no such what either: would(199, " + what + ")", x -> x.would(199, what), NONE);
        }
    }

    // ---- greatest ----

    @Sentence(promise = {29}, says = "GREATEST: the greatest SIZE (1 to 199) for which it would do without "
            + "SQUEEZE and PURGE, without PURGE, at all.")
    static void theGreatest() {
        for (int what = 0; what <= 2; what++) {
            same("199: greatest(" + what + ")", heap(200, 200).greatest(what), 199);
            same("199, by growing: greatest(" + what + ")", heap(8, 200).greatest(what), 199);
            same("198: greatest(" + what + ")", heap(8, 199).greatest(what), 198);
            same("1: greatest(" + what + ")", heap(8, 8, 5).greatest(what), 1);
            same("one cell: greatest(" + what + ")", heap(8, 8, 6).greatest(what), 0);
        }
        int[] due = {29, 29, 29};
        for (int what = 0; what <= 2; what++) {
            same("greatest(" + what + ")", heap(30, 30).greatest(what), due[what]);
        }
        // more than 60, that no block can have
        same("greatest(0)", heap(62, 62).greatest(0), 61);
    }

    @Sentence(promise = {29}, says = "GREATEST what 0: without SQUEEZE and PURGE, 1: without PURGE, 2: at all;")
    static void theGreatestByEach() {
        MasterHeap x = made(MightBoundaries::busy);
        // 50 cells: handles 1 to 4 have 5, 10, 10 and 3; 3 can be squeezed to 3, 2 and 4 can go
        int[] due = {21, 28, 41};
        for (int what = 0; what <= 2; what++) {
            same("greatest(" + what + ")", x.greatest(what), due[what]);
        }
        same("would do: would(21, 4)", x.would(21, 4), 0);
        same("squeezed: would(22, 4)", x.would(22, 4), 8);
        same("not purged: would(28, 1)", x.would(28, 1), 0);
        same("purged: would(29, 1)", x.would(29, 1), 4);
        same("at all: would(41, 0)", x.would(41, 0), 1);
        noFit(x, 42);
        x.lock(3);
        same("it has a lock: greatest(1)", x.greatest(1), 19);
        x.unlock(3);
        x.lock(2);
        same("it has a lock: greatest(2)", x.greatest(2), 29);
        same("by another order of the blocks: greatest(0)", made(Boundaries::gaps).greatest(0), 14);
        same("by growing and another order: greatest(0)", made(Boundaries::steps).greatest(0), 15);
    }

    @Sentence(promise = {29}, says = "0: none would.")
    static void noneWould() {
        for (int what = 0; what <= 2; what++) {
            int asked = what;
            still(Boundaries::full, "greatest(" + what + ")", x -> x.greatest(asked), 0);
        }
        Way squeezed = x -> {
            full(x);
            x.least(0, 5);
        };
        int[] due = {0, 1, 1};
        for (int what = 0; what <= 2; what++) {
            same("it can be less: greatest(" + what + ")", made(squeezed).greatest(what), due[what]);
        }
        Way purged = x -> {
            full(x);
            mark(x, 0);
        };
        int[] then = {0, 0, 7};
        for (int what = 0; what <= 2; what++) {
            same("it can go: greatest(" + what + ")", made(purged).greatest(what), then[what]);
        }
    }

    @Sentence(promise = {29}, says = "NONE for others.")
    static void greatestForOthers() {
        for (int what : new int[] {MIN, -1, 3, 4, MAX}) {
            still(RICH, "greatest(" + what + ")", x -> x.greatest(what), NONE);
        }
    }

    // ---- fewest ----

    /** Blocks of 5, 10, 5, 10 and 10 cells fill 40 cells; all but the last can go. */
    private static void five(MasterHeap x) {
        lay(x, 40, 40, 4, 9, 4, 9, 9);
        mark(x, 0, 1, 2, 3);
    }

    private static void fewest(MasterHeap x, int size, int many, int set) {
        same("fewest(" + size + ", 0)", x.fewest(size, 0), many);
        same("fewest(" + size + ", 1)", x.fewest(size, 1), set);
    }

    @Sentence(promise = {30}, says = "FEWEST of a SIZE: the fewest HANDLES that CAN GO, so that, were just these "
            + "PURGED, FIT would do without SQUEEZE and any more PURGE;")
    static void theFewestThatMustGo() {
        MasterHeap x = made(MightBoundaries::five);
        fewest(x, 4, 1, 1);
        fewest(x, 5, 1, 2);
        fewest(x, 9, 1, 2);
        fewest(x, 10, 2, 3);
        fewest(x, 14, 2, 3);
        fewest(x, 15, 2, 10);
        fewest(x, 19, 2, 10);
        fewest(x, 20, 3, 11);
        fewest(x, 24, 3, 11);
        fewest(x, 25, 4, 15);
        fewest(x, 29, 4, 15);
        fewest(x, 30, CANNOT, CANNOT);
        // it is not squeezed
        x.least(4, 1);
        fewest(x, 30, CANNOT, CANNOT);
        // none must go
        fewest(heap(40, 40), 39, 0, 0);
        fewest(heap(8, 200), 199, 0, 0);
        MasterHeap grow = heap(20, 25, 19);
        mark(grow, 0);
        fewest(grow, 4, 0, 0);
        fewest(grow, 5, 1, 1);
        fewest(grow, 24, 1, 1);
        // one with a lock, one that is EMPTY and one that is not PURGEABLE can't go
        MasterHeap locked = made(MightBoundaries::five);
        locked.lock(1);
        fewest(locked, 5, 1, 8);
        locked.purge(3);
        fewest(locked, 9, 0, 0);
        fewest(locked, 14, 1, 1);
        fewest(locked, 15, CANNOT, CANNOT);
    }

    @Sentence(promise = {30}, says = "of several sets the least as bits.")
    static void ofSeveralSetsTheLeast() {
        Way all = x -> {
            lay(x, 16, 16, 1, 1, 1, 1, 1, 1, 1, 1);
            mark(x, 0, 1, 2, 3, 4, 5, 6, 7);
        };
        for (int many = 1; many <= 8; many++) {
            fewest(made(all), 2 * many - 1, many, (1 << many) - 1);
        }
        MasterHeap touched = made(all);
        touched.touch(0);
        fewest(touched, 1, 1, 1);
        MasterHeap locked = made(all);
        lock(locked, 0);
        fewest(locked, 1, 1, 2);
        fewest(locked, 3, 2, 6);
        fewest(locked, 14, CANNOT, CANNOT);
    }

    @Sentence(promise = {30}, says = "FEWEST (SIZE 1 to 199) what 0: how many, 1: the set;")
    static void fewestAnswersHowManyAndWhich() {
        fewest(heap(8, 8), 1, 0, 0);
        fewest(heap(200, 200), 199, 0, 0);
        MasterHeap x = heap(200, 200, 60, 60, 60);
        mark(x, 0, 1, 2);
        fewest(x, 16, 0, 0);
        fewest(x, 17, 1, 1);
        fewest(x, 199, 3, 7);
    }

    @Sentence(promise = {30}, says = "-2: by none.")
    static void fewestByNone() {
        for (int what = 0; what <= 1; what++) {
            int asked = what;
            still(Boundaries::full, "none can go: fewest(1, " + what + ")", x -> x.fewest(1, asked), CANNOT);
            still(RICH, "fewest(199, " + what + ")", x -> x.fewest(199, asked), CANNOT);
        }
        MasterHeap x = made(Boundaries::full);
        mark(x, 0);
        fewest(x, 7, 1, 1);
        fewest(x, 8, CANNOT, CANNOT);
    }

    @Sentence(promise = {30}, says = "NONE without these.")
    static void fewestWithoutThese() {
        for (int size : NO_SIZES) {
            still(RICH, "fewest(" + size + ", 0)", x -> x.fewest(size, 0), NONE);
            still(RICH, "fewest(" + size + ", 1)", x -> x.fewest(size, 1), NONE);
        }
        for (int what : new int[] {MIN, -1, 2, 3, MAX}) {
            still(RICH, "fewest(1, " + what + ")", x -> x.fewest(1, what), NONE);
            still(RICH, "fewest(199, " + what + ")", x -> x.fewest(199, what), NONE);
        }
    }

    // ---- three ----

    @Sentence(promise = {31}, says = "THREE: whether for BLOCKS of three SIZES and 1 (none for 0) there is a "
            + "place each in the GAPS,")
    static void threeAtOnce() {
        MasterHeap x = heap(30, 30);
        same("just enough: three(9, 9, 9)", x.three(9, 9, 9), true);
        same("one too many: three(10, 9, 9)", x.three(10, 9, 9), false);
        same("one too many: three(9, 10, 9)", x.three(9, 10, 9), false);
        same("one too many: three(9, 9, 10)", x.three(9, 9, 10), false);
        same("none for 0: three(0, 14, 14)", x.three(0, 14, 14), true);
        same("none for 0: three(14, 0, 14)", x.three(14, 0, 14), true);
        same("none for 0: three(14, 14, 0)", x.three(14, 14, 0), true);
        same("three(14, 15, 0)", x.three(14, 15, 0), false);
        same("two of none: three(29, 0, 0)", x.three(29, 0, 0), true);
        same("two of none: three(0, 0, 30)", x.three(0, 0, 30), false);
        MasterHeap full = made(Boundaries::full);
        full.lock(0);
        same("none at all, in no gap: three(0, 0, 0)", full.three(0, 0, 0), true);
        same("one, in no gap: three(1, 0, 0)", full.three(1, 0, 0), false);
        MasterHeap all = made(Boundaries::eight);
        same("with all handles: three(15, 15, 15)", all.three(15, 15, 15), true);
        same("with all handles: three(15, 15, 16)", all.three(15, 15, 16), false);
    }

    @Sentence(promise = {31}, says = "if the LOOSE ones that are not FIXED and these may lie there in any order,")
    static void theLooseOnesMayLieInAnyOrder() {
        // gaps of 5, 5 and 15 cells, two blocks of 5
        MasterHeap x = made(Boundaries::gaps);
        same("three(4, 4, 4)", x.three(4, 4, 4), true);
        same("three(14, 0, 0)", x.three(14, 0, 0), true);
        same("three(15, 0, 0)", x.three(15, 0, 0), false);
        same("three(9, 4, 0)", x.three(9, 4, 0), true);
        same("three(9, 4, 1)", x.three(9, 4, 1), false);
        same("three(5, 5, 2)", x.three(5, 5, 2), true);
        same("three(5, 5, 3)", x.three(5, 5, 3), false);
        same("three(1, 1, 1)", x.three(1, 1, 1), true);
        // a fixed one stays where it is
        x.lock(4);
        same("three(4, 4, 4)", x.three(4, 4, 4), true);
        same("three(9, 4, 0)", x.three(9, 4, 0), true);
        x.lock(5);
        same("three(9, 0, 0)", x.three(9, 0, 0), false);
        // they are neither squeezed nor purged
        MasterHeap y = made(Boundaries::full);
        y.least(0, 1);
        mark(y, 0);
        same("three(1, 0, 0)", y.three(1, 0, 0), false);
    }

    @Sentence(promise = {31}, says = "in a HEAP of MOST CELLS.")
    static void threeInAHeapOfMostCells() {
        MasterHeap x = heap(10, 20, 9);
        same("three(9, 0, 0)", x.three(9, 0, 0), true);
        same("three(10, 0, 0)", x.three(10, 0, 0), false);
        same("three(4, 4, 0)", x.three(4, 4, 0), true);
        x.lock(0);
        same("behind a fixed one: three(9, 0, 0)", x.three(9, 0, 0), true);
        same("three(10, 0, 0)", x.three(10, 0, 0), false);
        same("three(199, 0, 0)", heap(8, 200).three(199, 0, 0), true);
        same("three(199, 0, 0)", heap(8, 199).three(199, 0, 0), false);
        // one gap with what is free at the end
        MasterHeap y = heap(15, 20, 9);
        y.lock(0);
        same("three(9, 0, 0)", y.three(9, 0, 0), true);
        same("three(10, 0, 0)", y.three(10, 0, 0), false);
    }

    @Sentence(promise = {31}, says = "THREE (SIZES 0 to 199); false without these.")
    static void threeWithoutThese() {
        Way whole = x -> x.start(200, 200);
        same("three(0, 0, 0)", made(whole).three(0, 0, 0), true);
        same("three(199, 0, 0)", made(whole).three(199, 0, 0), true);
        same("three(0, 199, 0)", made(whole).three(0, 199, 0), true);
        same("three(0, 0, 199)", made(whole).three(0, 0, 199), true);
        for (int size : new int[] {MIN, -2, -1, 200, 201, MAX}) {
            still(whole, "three(" + size + ", 0, 0)", x -> bit(x.three(size, 0, 0)), 0);
            still(whole, "three(0, " + size + ", 0)", x -> bit(x.three(0, size, 0)), 0);
            still(whole, "three(0, 0, " + size + ")", x -> bit(x.three(0, 0, size)), 0);
        }
    }

    // ---- cheapest ----

    private static void cheapest(MasterHeap x, int size, int cells, int set) {
        same("cheapest(" + size + ", 0)", x.cheapest(size, 0), cells);
        same("cheapest(" + size + ", 1)", x.cheapest(size, 1), set);
    }

    /** 0:5:0 5:5:2 10:3:3 13:10:1 23:7:0 */
    private static void mixed(MasterHeap x) {
        lay(x, 30, 30, 4, 4, 2, 4);
        drop(x, 0, 3);
        x.make(9, 0);
    }

    @Sentence(promise = {32}, says = "CHEAPEST of a SIZE: of the LOOSE BLOCKS that are not FIXED a set, so that, "
            + "were these taken out and all else stayed, they and a run of SIZE and 1 CELLS would find a place "
            + "each, in any order, in the runs of FREE CELLS,")
    static void whatMustBeTakenOut() {
        MasterHeap x = made(MightBoundaries::mixed);
        blocks(x, "0:5:0 5:5:2 10:3:3 13:10:1 23:7:0");
        cheapest(x, 6, 0, 0);
        cheapest(x, 7, 5, 2);
        cheapest(x, 9, 5, 2);
        cheapest(x, 10, 15, 3);
        cheapest(x, 11, 15, 3);
        cheapest(x, 12, CANNOT, CANNOT);
        // a fixed one stays
        x.lock(1);
        cheapest(x, 9, 13, 5);
        cheapest(x, 10, CANNOT, CANNOT);
        x.lock(0);
        cheapest(x, 6, 0, 0);
        cheapest(x, 7, CANNOT, CANNOT);
        // in gaps of 5, 5 and 15 cells
        cheapest(made(Boundaries::gaps), 4, 0, 0);
        cheapest(made(Boundaries::gaps), 5, 5, 32);
        cheapest(made(Boundaries::gaps), 9, 5, 32);
        cheapest(made(Boundaries::gaps), 10, 10, 48);
        cheapest(made(Boundaries::gaps), 14, 10, 48);
        cheapest(made(Boundaries::gaps), 15, CANNOT, CANNOT);
    }

    @Sentence(promise = {32}, says = "in a HEAP of MOST CELLS:")
    static void cheapestInAHeapOfMostCells() {
        cheapest(heap(8, 200), 199, 0, 0);
        cheapest(heap(8, 199), 199, CANNOT, CANNOT);
        cheapest(heap(20, 25, 19), 4, 0, 0);
        cheapest(heap(20, 25, 19), 5, CANNOT, CANNOT);
        MasterHeap x = heap(20, 25, 4, 14);
        x.drop(0);
        cheapest(x, 4, 0, 0);
        cheapest(x, 5, 15, 2);
        cheapest(x, 9, 15, 2);
        cheapest(x, 10, CANNOT, CANNOT);
        same("it has not grown: count(0)", x.count(0), 20);
    }

    @Sentence(promise = {32}, says = "that of fewest CELLS (LENGTHS, together), of several the least, as bits of "
            + "HANDLES.")
    static void fewestCellsOfSeveralTheLeast() {
        // either of two blocks of 5 cells would do
        MasterHeap x = heap(22, 22, 4, 1, 4, 4, 4);
        x.lock(1);
        drop(x, 0, 3);
        blocks(x, "0:5:0 5:2:2 7:5:3 12:5:0 17:5:5");
        cheapest(x, 9, 5, 4);
        // one of 5 cells costs less than two of 2 and 4, though it is the greater set
        MasterHeap y = heap(24, 24, 1, 3, 4, 4, 4);
        blocks(y, "0:2:1 2:4:2 6:5:3 11:5:4 16:5:5 21:3:0");
        y.lock(2);
        y.drop(3);
        blocks(y, "0:2:1 2:4:2 6:5:3 11:5:0 16:5:5 21:3:0");
        cheapest(y, 4, 0, 0);
        cheapest(y, 5, 5, 16);
        cheapest(y, 7, 5, 16);
        cheapest(y, 8, CANNOT, CANNOT);
        // seven of eight: a cell is free ahead of them, and one behind
        MasterHeap seven = heap(18, 18, 2, 1, 1, 1, 1, 1, 1, 1);
        seven.resize(0, 1);
        cheapest(seven, 1, 14, 254);
        cheapest(seven, 2, CANNOT, CANNOT);
    }

    @Sentence(promise = {32}, says = "CHEAPEST (SIZE 1 to 199) what 0: CELLS, 1: the set;")
    static void cheapestAnswersCellsAndSet() {
        cheapest(heap(8, 8), 1, 0, 0);
        cheapest(heap(200, 200), 199, 0, 0);
        MasterHeap x = heap(64, 64, 60);
        x.high(0);
        x.unlock(0);
        blocks(x, "0:3:0 3:61:1");
        cheapest(x, 2, 0, 0);
        cheapest(x, 3, CANNOT, CANNOT);
    }

    @Sentence(promise = {32}, says = "-2: there is none.")
    static void cheapestThereIsNone() {
        for (int what = 0; what <= 1; what++) {
            int asked = what;
            still(Boundaries::full, "a full heap: cheapest(1, " + what + ")", x -> x.cheapest(1, asked), CANNOT);
            still(RICH, "cheapest(199, " + what + ")", x -> x.cheapest(199, asked), CANNOT);
        }
        // none is squeezed or purged
        MasterHeap x = made(Boundaries::full);
        x.least(0, 1);
        mark(x, 0);
        cheapest(x, 1, CANNOT, CANNOT);
    }

    @Sentence(promise = {32}, says = "NONE without these.")
    static void cheapestWithoutThese() {
        for (int size : NO_SIZES) {
            still(RICH, "cheapest(" + size + ", 0)", x -> x.cheapest(size, 0), NONE);
            still(RICH, "cheapest(" + size + ", 1)", x -> x.cheapest(size, 1), NONE);
        }
        for (int what : new int[] {MIN, -1, 2, 3, MAX}) {
            still(RICH, "cheapest(1, " + what + ")", x -> x.cheapest(1, what), NONE);
            still(RICH, "cheapest(199, " + what + ")", x -> x.cheapest(199, what), NONE);
        }
    }
}
