/** Blocks that go high: HIGH, and the places that are CLEARED by FIX and RESERVE. */
final class ClearingBoundaries extends Boundaries {
    private ClearingBoundaries() {
    }

    // ---- high ----

    @Sentence(promise = {9}, says = "HIGH (a FULL one without LOCKS): its BLOCK goes where it lies highest: as if "
            + "it were FREE, at the end of the last FREE BLOCK that has its LENGTH;")
    static void atTheEndOfTheLastFreeBlockThatIsLongEnough() {
        // the last free block has 4, 5 and 6 cells
        for (int last = 4; last <= 6; last++) {
            int size = 17 + last;
            MasterHeap x = heap(size, size, 4, 4, 4, 1);
            lock(x, 1, 3);
            drop(x, 2);
            fill(x, 0, 10);
            same("with " + last + " cells at the end: high(0)", x.high(0), last < 5 ? 10 : size - 5);
            filled(x, 0, 10, 4);
            same("it does not grow: count(0)", x.count(0), size);
        }
    }

    @Sentence(promise = {9}, says = "as if it were FREE,")
    static void itsOwnCellsAreAsIfTheyWereFree() {
        MasterHeap over = heap(22, 22, 9, 9);
        same("one with what is free behind it: high(1)", over.high(1), 12);
        blocks(over, "0:10:1 10:2:0 12:10:2");
        MasterHeap one = heap(21, 30, 9, 9);
        same("by one cell: high(1)", one.high(1), 11);
        MasterHeap stays = heap(22, 22, 9, 9);
        same("no other place: high(0)", stays.high(0), 0);
        same("handle(0, 3)", stays.handle(0, 3), 1);
        same("count(5)", stays.count(5), 0);
        MasterHeap full = made(Boundaries::full);
        same("in a full heap: high(0)", full.high(0), 0);
        filled(full, 0, 30, 7);
        // a free one below is not taken, though it is long enough: its own is the last
        MasterHeap below = heap(30, 30, 9, 9, 9);
        below.drop(0);
        same("high(1)", below.high(1), 10);
        same("at the end: high(2)", below.high(2), 20);
    }

    @Sentence(promise = {9}, says = "then it has one LOCK.")
    static void thenItHasOneLock() {
        MasterHeap x = heap(20, 20, 4);
        x.high(0);
        same("handle(0, 3)", x.handle(0, 3), 1);
        same("unlock(0)", x.unlock(0), 0);
        same("again: high(0)", x.high(0), 15);
        same("handle(0, 3)", x.handle(0, 3), 1);
    }

    @Sentence(promise = {9}, says = "HIGH: where its BLOCK lies;")
    static void highAnswersWhere() {
        MasterHeap x = heap(200, 200, 60, 1);
        same("high(0)", x.high(0), 139);
        same("handle(0, 1)", x.handle(0, 1), 139);
        same("high(1)", x.high(1), 137);
        same("handle(1, 1)", x.handle(1, 1), 137);
    }

    // ---- what can be cleared ----

    @Sentence(promise = {16, 18}, says = "A place can be CLEARED for N CELLS: a BLOCK that is not FIXED begins "
            + "there,")
    static void aBlockThatIsNotFixedBeginsThere() {
        same("a FREE one: reserve(4)", heap(20, 20).reserve(4), 0);
        same("a LOOSE one: reserve(4)", heap(20, 20, 4).reserve(4), 0);
        MasterHeap locked = heap(20, 20, 4);
        locked.lock(0);
        same("one with a lock: reserve(4)", locked.reserve(4), 5);
        MasterHeap island = heap(20, 20);
        island.fix(4);
        same("an ISLAND: reserve(4)", island.reserve(4), 5);
        MasterHeap none = heap(20, 20, 4, 14);
        lock(none, 0, 1);
        same("all are FIXED: reserve(1)", none.reserve(1), CANNOT);
    }

    @Sentence(promise = {16, 18}, says = "the N CELLS from there on are all in the HEAP,")
    static void theCellsAreAllInTheHeap() {
        same("all of it: reserve(39)", heap(40, 60).reserve(39), 0);
        same("one more: reserve(40)", heap(40, 60).reserve(40), CANNOT);
        MasterHeap x = heap(40, 60, 9);
        x.lock(0);
        same("to the end: reserve(29)", x.reserve(29), 10);
        same("beyond it: reserve(30)", x.reserve(30), CANNOT);
        same("count(0)", x.count(0), 40);
        same("beyond it, and it grows: fix(30)", x.fix(30), 0);
        same("pointer(0, 0)", x.pointer(0, 0), 10);
        same("count(0)", x.count(0), 41);
    }

    @Sentence(promise = {16, 18}, says = "and none is of a FIXED BLOCK;")
    static void noCellIsOfAFixedBlock() {
        Way locked = x -> {
            lay(x, 40, 40, 9, 1);
            x.lock(1);
            x.drop(0);
        };
        same("up to it: reserve(9)", made(locked).reserve(9), 0);
        same("its header: reserve(10)", made(locked).reserve(10), 12);
        Way island = x -> {
            x.start(40, 40);
            x.fix(9);
            x.fix(1);
            x.unfix(0);
        };
        same("up to it: reserve(9)", made(island).reserve(9), 0);
        same("its header: reserve(10)", made(island).reserve(10), 12);
        same("it is not the last of the cells: reserve(12)", made(island).reserve(12), 12);
        // one FREE cell between two that are FIXED
        MasterHeap one = heap(20, 20, 2, 1);
        one.resize(0, 1);
        lock(one, 0, 1);
        blocks(one, "0:2:1 2:1:0 3:2:2 5:15:0");
        same("reserve(1)", one.reserve(1), 5);
        blocks(one, "0:2:1 2:1:0 3:2:2 5:15:0");
    }

    @Sentence(promise = {16, 18}, says = "each LOOSE BLOCK that has any of these CELLS, from the first on, goes "
            + "where it lies highest without them:")
    static void eachBlockInTheWayGoesHigh() {
        Way two = x -> {
            lay(x, 20, 20, 3, 3);
            fill(x, 0, 10);
            fill(x, 1, 20);
        };
        MasterHeap one = made(two);
        same("up to the second: reserve(3)", one.reserve(3), 0);
        blocks(one, "0:4:0 4:4:2 8:8:0 16:4:1");
        same("count(5)", one.count(5), 1);
        MasterHeap both = made(two);
        same("with the second's header: reserve(4)", both.reserve(4), 0);
        blocks(both, "0:12:0 12:4:2 16:4:1");
        filled(both, 0, 10, 3);
        filled(both, 1, 20, 3);
        MasterHeap all = made(x -> lay(x, 40, 40, 1, 1, 1, 1, 1, 1, 1, 1));
        same("as many as there can be: reserve(15)", all.reserve(15), 0);
        blocks(all, "0:24:0 24:2:8 26:2:7 28:2:6 30:2:5 32:2:4 34:2:3 36:2:2 38:2:1");
        same("count(5)", all.count(5), 8);
        // the first is the one that lies first, not the least handle
        MasterHeap crossed = heap(20, 20, 1, 3);
        crossed.drop(0);
        crossed.make(3, 0);
        blocks(crossed, "0:2:0 2:4:2 6:4:1 10:10:0");
        same("reserve(7)", crossed.reserve(7), 0);
        blocks(crossed, "0:12:0 12:4:1 16:4:2");
    }

    @Sentence(promise = {16, 18}, says = "of the runs of FREE CELLS, those N not counted, that have its LENGTH, "
            + "at the end of the last one")
    static void toTheEndOfTheLastRunThatIsLongEnough() {
        for (int last = 4; last <= 6; last++) {
            int size = 17 + last;
            MasterHeap x = heap(size, size, 4, 4, 4, 1);
            lock(x, 1, 3);
            drop(x, 2);
            same("with " + last + " cells at the end: reserve(4)", x.reserve(4), 0);
            same("handle(0, 1)", x.handle(0, 1), last < 5 ? 10 : size - 5);
        }
        // those N are FREE, but they do not count
        MasterHeap y = heap(14, 14, 4, 4);
        same("one short: reserve(5)", y.reserve(5), CANNOT);
        MasterHeap z = heap(15, 15, 4, 4);
        same("just enough for one: reserve(4)", z.reserve(4), 0);
        blocks(z, "0:5:0 5:5:2 10:5:1");
        // a run below those N
        MasterHeap w = heap(20, 20, 3, 1, 3, 1, 7);
        lock(w, 1, 4);
        drop(w, 0, 3);
        blocks(w, "0:4:0 4:2:2 6:4:3 10:2:0 12:8:5");
        same("reserve(5)", w.reserve(5), 6);
        blocks(w, "0:4:3 4:2:2 6:6:0 12:8:5");
    }

    @Sentence(promise = {16, 18}, says = "(its own CELLS but those N are FREE then);")
    static void itsOwnCellsAreFreeThen() {
        // 10 cells over what is left of its own and what is free behind: 11, 10 and 9 cells
        int[] places = {6, 6, CANNOT};
        for (int more = 0; more <= 2; more++) {
            MasterHeap x = heap(16, 16, 9);
            fill(x, 0, 10);
            int place = x.reserve(4 + more);
            same("reserve(" + (4 + more) + ")", place, more < 2 ? 0 : CANNOT);
            same("handle(0, 1)", x.handle(0, 1), more < 2 ? places[more] : 0);
            filled(x, 0, 10, 9);
        }
        // those of the block behind it are not yet
        MasterHeap z = heap(17, 17, 3, 1, 2, 3, 1, 1);
        lock(z, 1, 5);
        drop(z, 0, 4);
        blocks(z, "0:4:0 4:2:2 6:3:3 9:4:4 13:2:0 15:2:6");
        same("reserve(4)", z.reserve(4), 6);
        blocks(z, "0:1:0 1:3:3 4:2:2 6:5:0 11:4:4 15:2:6");
    }

    @Sentence(promise = {16, 18}, says = "there is such a run for each.")
    static void thereIsARunForEach() {
        // the first could go, the second could not: another place, and the first is where it was
        MasterHeap x = heap(15, 15, 3, 3, 1);
        x.lock(2);
        blocks(x, "0:4:1 4:4:2 8:2:3 10:5:0");
        same("reserve(4)", x.reserve(4), 10);
        blocks(x, "0:4:1 4:4:2 8:2:3 10:5:0");
        same("count(5)", x.count(5), 0);
        MasterHeap two = heap(23, 23, 3, 5, 1, 4, 1);
        lock(two, 2, 4);
        two.drop(3);
        same("another place, not where the first had gone: reserve(4)", two.reserve(4), 12);
        blocks(two, "0:4:1 4:6:2 10:2:3 12:5:0 17:2:5 19:4:0");
        same("count(5)", two.count(5), 0);
        Way none = y -> {
            lay(y, 14, 14, 3, 3, 1);
            y.lock(2);
        };
        still(none, "reserve(4)", y -> y.reserve(4), CANNOT);
        still(none, "fix(4)", y -> y.fix(4), CANNOT);
        same("for one block: reserve(3)", made(none).reserve(3), 0);
    }

    // ---- fix ----

    @Sentence(promise = {16}, says = "FIX: the least POINTER that is UNUSED has an ISLAND of SIZE 1 to 60, "
            + "CONTENTS 0, at the first place that can be CLEARED;")
    static void theLeastPointerHasAnIsland() {
        MasterHeap x = heap(200, 200);
        same("fix(1)", x.fix(1), 0);
        same("fix(60)", x.fix(60), 1);
        same("fix(59)", x.fix(59), 2);
        blocks(x, "0:2:33 2:61:34 63:60:35 123:77:0");
        x.set(1, 0, 5);
        x.set(1, 59, 6);
        x.unfix(1);
        x.unfix(0);
        same("fix(60)", x.fix(60), 0);
        same("pointer(0, 0)", x.pointer(0, 0), 0);
        zeros(x, 1, 61);
        for (int size : new int[] {MIN, -1, 0, 61, 62, MAX}) {
            still(y -> y.start(200, 200), "fix(" + size + ")", y -> y.fix(size), NONE);
        }
    }

    @Sentence(promise = {16}, says = "at the first place that can be CLEARED;")
    static void theIslandIsAtTheFirstPlace() {
        MasterHeap loose = heap(40, 60, 9, 9);
        fill(loose, 0, 10);
        loose.fix(4);
        blocks(loose, "0:5:33 5:5:0 10:10:2 20:10:0 30:10:1");
        filled(loose, 0, 10, 9);
        MasterHeap locked = heap(40, 60, 9, 9);
        locked.lock(0);
        locked.fix(4);
        blocks(locked, "0:10:1 10:5:33 15:15:0 30:10:2");
        MasterHeap all = heap(61, 61);
        same("all of the heap: fix(60)", all.fix(60), 0);
        blocks(all, "0:61:33");
    }

    @Sentence(promise = {16}, says = "is there none, by GROWING (as in FIT 3, by which it has its CELLS, or it "
            + "can't be).")
    static void anIslandByGrowing() {
        Way full = x -> {
            lay(x, 10, 30, 9);
            x.lock(0);
        };
        MasterHeap exact = made(full);
        same("to MOST: fix(19)", exact.fix(19), 0);
        blocks(exact, "0:10:1 10:20:33");
        same("count(0)", exact.count(0), 30);
        still(full, "one more: fix(20)", x -> x.fix(20), CANNOT);
        MasterHeap least = made(full);
        least.fix(1);
        same("by the least: count(0)", least.count(0), 12);
        // the last block is FREE: it begins there
        MasterHeap free = heap(13, 30, 9);
        free.lock(0);
        same("there are cells enough: fix(2)", free.fix(2), 0);
        free.undo();
        same("one is missing: fix(3)", free.fix(3), 0);
        blocks(free, "0:10:1 10:4:33");
        same("count(0)", free.count(0), 14);
        // it neither slides, squeezes nor throws away
        Way tight = x -> {
            lay(x, 20, 20, 4, 4, 9);
            x.lock(1);
            x.least(2, 1);
            mark(x, 2, 0);
        };
        still(tight, "fix(5)", x -> x.fix(5), CANNOT);
    }

    @Sentence(promise = {16}, says = "FIX: the POINTER;")
    static void fixAnswersThePointer() {
        MasterHeap x = new MasterHeap();
        for (int p = 0; p <= 2; p++) {
            same("fix(1)", x.fix(1), p);
        }
        same("none is left: fix(1)", x.fix(1), NONE);
        x.unfix(2);
        x.unfix(1);
        same("fix(1)", x.fix(1), 1);
        same("fix(1)", x.fix(1), 2);
    }

    // ---- reserve ----

    @Sentence(promise = {18}, says = "RESERVE: the first place that can be CLEARED for a SIZE and 1 is CLEARED, "
            + "and FREE.")
    static void thePlaceIsClearedAndFree() {
        MasterHeap x = heap(40, 60, 3, 3);
        fill(x, 0, 10);
        fill(x, 1, 20);
        x.reserve(3);
        blocks(x, "0:4:0 4:4:2 8:28:0 36:4:1");
        same("it is a SIZE and 1: would(3, 2)", x.would(3, 2), 0);
        same("and no more: would(4, 2)", x.would(4, 2), 8);
        zeros(x, 1, 4);
        MasterHeap free = heap(40, 60);
        free.reserve(9);
        blocks(free, "0:40:0");
        same("it is an act: count(2)", free.count(2), 1);
        same("no pointer is used: pointer(0, 0)", free.pointer(0, 0), NONE);
    }

    @Sentence(promise = {18}, says = "RESERVE: the place;")
    static void reserveAnswersThePlace() {
        same("reserve(1)", heap(8, 8).reserve(1), 0);
        same("reserve(60)", heap(61, 61).reserve(60), 0);
        // the first block in the way goes ahead of the place
        MasterHeap x = heap(10, 10, 1, 1, 3, 1);
        x.lock(3);
        x.resize(2, 2);
        x.drop(0);
        blocks(x, "0:2:0 2:2:2 4:3:3 7:1:0 8:2:4");
        same("reserve(2)", x.reserve(2), 2);
        blocks(x, "0:2:2 2:3:0 5:3:3 8:2:4");
    }
}
