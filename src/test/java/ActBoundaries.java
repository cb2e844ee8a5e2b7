/** What each act does, at its edges; what an act touches and moves; acts undone. */
final class ActBoundaries extends Boundaries {
    private ActBoundaries() {
    }

    /** One act of each kind, one behind the other, from start(40, 60) on; none is refused. */
    private static final Call[] ACTS = {
        x -> x.make(9, 3),
        x -> x.make(4, 1),
        x -> x.put(0, 0, 5),
        x -> x.put(0, 0, 5),
        x -> bit(x.touch(0)),
        x -> x.lock(0),
        x -> x.unlock(0),
        x -> x.high(1),
        x -> x.unlock(1),
        x -> bit(x.mark(0, true)),
        x -> x.least(0, 5),
        x -> bit(x.purge(0)),
        x -> x.remake(0),
        x -> x.resize(0, 8),
        x -> x.fix(3),
        x -> x.set(0, 0, 1),
        x -> bit(x.unfix(0)),
        x -> x.reserve(3),
        x -> x.compact(),
        x -> x.compact(),
        x -> x.policy(1),
        x -> bit(x.drop(1)),
    };

    private static void goTo(MasterHeap x, int acts) {
        x.start(40, 60);
        for (int act = 0; act < acts; act++) {
            ACTS[act].of(x);
        }
    }

    @Sentence(promise = {36}, says = "ACTS (each that is done: CLOCK is 1 more):")
    static void eachActIsOneTickOfTheClock() {
        MasterHeap x = heap(40, 60);
        same("count(2)", x.count(2), 0);
        for (int act = 0; act < ACTS.length; act++) {
            ACTS[act].of(x);
            same("behind act " + act + ": count(2)", x.count(2), act + 1);
        }
    }

    // ---- make, put, touch ----

    @Sentence(promise = {3}, says = "MAKE: the least HANDLE that is UNUSED is FULL,")
    static void makeTakesTheLeastUnusedHandle() {
        MasterHeap x = new MasterHeap();
        for (int h = 0; h <= 7; h++) {
            same("make(1, 0)", x.make(1, 0), h);
            same("handle(" + h + ", 0)", x.handle(h, 0), 1);
        }
        drop(x, 7, 2, 5);
        x.mark(0, true);
        x.purge(0);
        same("an EMPTY one is not UNUSED: make(1, 0)", x.make(1, 0), 2);
        same("make(1, 0)", x.make(1, 0), 5);
        same("the last: make(1, 0)", x.make(1, 0), 7);
        same("none is left: make(1, 0)", x.make(1, 0), NONE);
        same("handle(0, 0)", x.handle(0, 0), 2);
    }

    @Sentence(promise = {3}, says = "its BLOCK by FIT (of SIZE and 1), CONTENTS 0, LEAST SIZE, not PURGEABLE.")
    static void whatIsMadeIsNew() {
        MasterHeap x = heap(10, 10);
        same("a cell more than there is: make(10, 0)", x.make(10, 0), CANNOT);
        same("all the cells: make(9, 0)", x.make(9, 0), 0);
        fill(x, 0, 20);
        x.least(0, 3);
        x.mark(0, true);
        x.drop(0);
        same("make(9, 4)", x.make(9, 4), 0);
        int[] all = {1, 0, 9, 0, 0, 4, 14, 14, 9};
        for (int what = 0; what <= 8; what++) {
            same("handle(0, " + what + ")", x.handle(0, what), all[what]);
        }
        zeros(x, 1, 10);
        MasterHeap last = made(Boundaries::eight);
        mark(last, 7, 3);
        last.least(7, 1);
        drop(last, 7, 3);
        same("make(1, 0)", last.make(1, 0), 3);
        same("handle(3, 4)", last.handle(3, 4), 0);
        same("make(1, 0)", last.make(1, 0), 7);
        same("handle(7, 4)", last.handle(7, 4), 0);
        // into cells that another block has left by a squeeze
        MasterHeap y = heap(10, 10, 9);
        fill(y, 0, 20);
        y.least(0, 4);
        same("make(4, 0)", y.make(4, 0), 1);
        zeros(y, 6, 10);
    }

    @Sentence(promise = {3}, says = "MAKE (COST): the HANDLE;")
    static void makeAnswersTheHandle() {
        MasterHeap x = heap(200, 200);
        same("make(60, 9)", x.make(60, 9), 0);
        same("make(1, 0)", x.make(1, 0), 1);
        same("handle(0, 5)", x.handle(0, 5), 9);
        same("handle(1, 5)", x.handle(1, 5), 0);
        same("handle(1, 1)", x.handle(1, 1), 61);
    }

    @Sentence(promise = {4, 5}, says = "PUT: a CELL of the CONTENTS of a HANDLE that is FULL, or of a POINTER, is "
            + "told.")
    static void putTellsOneCell() {
        MasterHeap x = heap(20, 20, 3, 3);
        x.fix(3);
        blocks(x, "0:4:33 4:4:2 8:8:0 16:4:1");
        x.put(0, 0, 11);
        x.put(0, 2, 13);
        x.set(0, 0, 21);
        x.set(0, 2, 23);
        int[] cells = {4 * 64 + 33, 21, 0, 23, 4 * 64 + 2, 0, 0, 0, 8 * 64, 0, 0, 0, 0, 0, 0, 0, 4 * 64 + 1, 11, 0, 13};
        for (int k = 0; k < 20; k++) {
            same("cell(" + k + ")", x.cell(k), cells[k]);
        }
        x.lock(0);
        same("with a lock: put(0, 2, 14)", x.put(0, 2, 14), 13);
        same("get(0, 2)", x.get(0, 2), 14);
    }

    @Sentence(promise = {4}, says = "PUT into the k-th CELL of the CONTENTS of a HANDLE: what it was;")
    static void putAnswersWhatItWas() {
        MasterHeap x = heap(200, 200, 1, 60);
        for (int v : new int[] {MIN, -1, 0, 1, 64, MAX}) {
            int was = x.get(0, 0);
            same("put(0, 0, " + v + ")", x.put(0, 0, v), was);
            same("the one cell: cell(1)", x.cell(1), v);
            same("the last of 60: put(1, 59, " + v + ")", x.put(1, 59, v), was);
            same("cell(62)", x.cell(62), v);
        }
        same("put(1, 0, 8)", x.put(1, 0, 8), 0);
        same("cell(3)", x.cell(3), 8);
        same("put(1, 0, 9)", x.put(1, 0, 9), 8);
    }

    @Sentence(promise = {5}, says = "PUT into the k-th CELL of the CONTENTS of a POINTER: what it was;")
    static void setAnswersWhatItWas() {
        MasterHeap x = heap(200, 200);
        x.fix(1);
        x.fix(5);
        x.fix(60);
        for (int v : new int[] {MIN, -1, 0, 1, 64, MAX}) {
            int was = x.cell(1);
            same("set(0, 0, " + v + ")", x.set(0, 0, v), was);
            same("the one cell: cell(1)", x.cell(1), v);
            same("the last of 60: set(2, 59, " + v + ")", x.set(2, 59, v), was);
            same("cell(68)", x.cell(68), v);
        }
        same("set(1, 4, 7)", x.set(1, 4, 7), 0);
        same("set(1, 4, 6)", x.set(1, 4, 6), 7);
        same("cell(7)", x.cell(7), 6);
    }

    @Sentence(promise = {6}, says = "TOUCH.")
    static void touchDoesNothingElse() {
        MasterHeap x = heap(20, 20, 4, 4);
        x.touch(0);
        same("handle(0, 6)", x.handle(0, 6), 3);
        same("handle(1, 6)", x.handle(1, 6), 2);
        same("it is an act: count(6)", x.count(6), 3);
        same("count(5)", x.count(5), 0);
        blocks(x, "0:5:1 5:5:2 10:10:0");
    }

    @Sentence(promise = {6}, says = "TOUCH (a HANDLE that is not UNUSED): true;")
    static void touchOfAFullAndOfAnEmptyOne() {
        MasterHeap x = made(Boundaries::eight);
        x.mark(7, true);
        x.purge(7);
        same("the first, FULL: touch(0)", x.touch(0), true);
        same("handle(0, 6)", x.handle(0, 6), 11);
        same("the last, EMPTY: touch(7)", x.touch(7), true);
        same("handle(7, 6)", x.handle(7, 6), 12);
        x.lock(1);
        same("with a lock: touch(1)", x.touch(1), true);
    }

    // ---- locks ----

    @Sentence(promise = {7}, says = "LOCK (one LOCK more of a FULL one);")
    static void lockIsOneMore() {
        MasterHeap x = heap(20, 20, 4, 4);
        x.lock(1);
        same("handle(1, 3)", x.handle(1, 3), 1);
        same("handle(0, 3)", x.handle(0, 3), 0);
        x.lock(1);
        same("handle(1, 3)", x.handle(1, 3), 2);
    }

    @Sentence(promise = {7}, says = "LOCK: how many LOCKS;")
    static void lockAnswersHowMany() {
        MasterHeap x = made(Boundaries::eight);
        for (int locks = 1; locks <= 7; locks++) {
            same("lock(7)", x.lock(7), locks);
        }
        same("lock(0)", x.lock(0), 1);
    }

    @Sentence(promise = {8}, says = "UNLOCK (one less).")
    static void unlockIsOneLess() {
        MasterHeap x = heap(20, 20, 4, 4);
        lock(x, 1, 1, 0);
        x.unlock(1);
        same("handle(1, 3)", x.handle(1, 3), 1);
        same("handle(0, 3)", x.handle(0, 3), 1);
        x.unlock(1);
        same("handle(1, 3)", x.handle(1, 3), 0);
        same("it can move again: free(3)", x.free(3), 1);
    }

    @Sentence(promise = {8}, says = "UNLOCK: how many LOCKS;")
    static void unlockAnswersHowMany() {
        MasterHeap x = made(Boundaries::eight);
        lock(x, 7, 7, 7, 7, 7, 7, 7);
        for (int locks = 6; locks >= 0; locks--) {
            same("unlock(7)", x.unlock(7), locks);
        }
        x.high(0);
        same("behind HIGH: unlock(0)", x.unlock(0), 0);
    }

    // ---- mark, let go, least, purge ----

    @Sentence(promise = {10}, says = "MARK: it is PURGEABLE, or not any more.")
    static void markTellsThisOneOnly() {
        MasterHeap x = made(Boundaries::eight);
        x.mark(7, true);
        same("handle(7, 4)", x.handle(7, 4), 1);
        same("handle(6, 4)", x.handle(6, 4), 0);
        x.mark(0, true);
        x.mark(7, false);
        same("handle(7, 4)", x.handle(7, 4), 0);
        same("handle(0, 4)", x.handle(0, 4), 1);
    }

    @Sentence(promise = {10}, says = "MARK (a HANDLE that is not UNUSED): true;")
    static void markOfAFullAndOfAnEmptyOne() {
        MasterHeap x = made(Boundaries::eight);
        same("mark(0, true)", x.mark(0, true), true);
        same("mark(7, true)", x.mark(7, true), true);
        x.lock(7);
        same("with a lock: mark(7, false)", x.mark(7, false), true);
        x.purge(0);
        same("EMPTY: mark(0, false)", x.mark(0, false), true);
        same("EMPTY: mark(0, true)", x.mark(0, true), true);
    }

    @Sentence(promise = {11}, says = "LET GO: a HANDLE without LOCKS is UNUSED, its BLOCK is FREE.")
    static void whatIsLetGoIsUnused() {
        MasterHeap x = heap(20, 20, 4, 4, 9);
        fill(x, 1, 10);
        x.drop(1);
        same("handle(1, 0)", x.handle(1, 0), 0);
        same("handle(1, 2)", x.handle(1, 2), NONE);
        blocks(x, "0:5:1 5:5:0 10:10:3");
        zeros(x, 6, 10);
        x.lock(0);
        same("with a lock: drop(0)", x.drop(0), false);
        x.unlock(0);
        same("without: drop(0)", x.drop(0), true);
        x.drop(2);
        blocks(x, "0:20:0");
    }

    @Sentence(promise = {11}, says = "LET GO (a HANDLE that is not UNUSED): true;")
    static void letGoOfAFullAndOfAnEmptyOne() {
        MasterHeap x = made(Boundaries::eight);
        same("the first: drop(0)", x.drop(0), true);
        same("the last: drop(7)", x.drop(7), true);
        x.mark(3, true);
        x.purge(3);
        String before = blocksOf(x);
        same("EMPTY: drop(3)", x.drop(3), true);
        same("handle(3, 0)", x.handle(3, 0), 0);
        blocks(x, before);
    }

    @Sentence(promise = {12}, says = "LEAST: another one of a FULL one is told.")
    static void leastIsTold() {
        MasterHeap x = heap(20, 20, 9, 4);
        x.least(0, 4);
        same("handle(0, 8)", x.handle(0, 8), 4);
        same("handle(0, 2)", x.handle(0, 2), 9);
        same("handle(1, 8)", x.handle(1, 8), 4);
        x.lock(0);
        same("with a lock: least(0, 5)", x.least(0, 5), 4);
        same("handle(0, 8)", x.handle(0, 8), 5);
    }

    @Sentence(promise = {12}, says = "LEAST (1 to SIZE): which it was;")
    static void leastAnswersWhichItWas() {
        MasterHeap x = heap(70, 70, 60);
        same("the least: least(0, 1)", x.least(0, 1), 60);
        same("the greatest: least(0, 60)", x.least(0, 60), 1);
        same("one less than SIZE: least(0, 59)", x.least(0, 59), 60);
        MasterHeap y = heap(10, 10, 1);
        same("there is one only: least(0, 1)", y.least(0, 1), NONE);
        same("least(0, 2)", y.least(0, 2), NONE);
        same("least(0, 0)", y.least(0, 0), NONE);
    }

    @Sentence(promise = {13}, says = "PURGE: one that CAN GO is EMPTY, its BLOCK is FREE.")
    static void whatIsPurgedIsEmpty() {
        MasterHeap x = heap(20, 20, 4, 4, 9);
        fill(x, 1, 10);
        x.least(1, 2);
        mark(x, 1);
        x.purge(1);
        blocks(x, "0:5:1 5:5:0 10:10:3");
        zeros(x, 6, 10);
        int[] all = {2, NONE, 4, 0, 1, 0, 7, 7, 2};
        for (int what = 0; what <= 8; what++) {
            same("handle(1, " + what + ")", x.handle(1, what), all[what]);
        }
    }

    @Sentence(promise = {13}, says = "PURGE: true;")
    static void purgeOfTheFirstAndTheLast() {
        MasterHeap x = made(Boundaries::eight);
        mark(x, 0, 7);
        same("purge(0)", x.purge(0), true);
        same("purge(7)", x.purge(7), true);
        same("nothing is billed: count(4)", x.count(4), 0);
        blocks(x, "0:2:0 2:2:2 4:2:3 6:2:4 8:2:5 10:2:6 12:2:7 14:50:0");
    }

    // ---- remake ----

    @Sentence(promise = {14}, says = "REMAKE: an EMPTY one is FULL by FIT, CONTENTS 0 (LEAST, PURGEABLE or not, "
            + "as it was);")
    static void whatIsRemadeIsFull() {
        MasterHeap x = heap(20, 20, 9, 9);
        fill(x, 0, 20);
        x.least(0, 3);
        mark(x, 0);
        x.purge(0);
        same("in all the cells there are: remake(0)", x.remake(0), 0);
        same("handle(0, 0)", x.handle(0, 0), 1);
        same("handle(0, 2)", x.handle(0, 2), 9);
        same("handle(0, 8)", x.handle(0, 8), 3);
        same("handle(0, 4)", x.handle(0, 4), 1);
        zeros(x, 1, 10);
        x.purge(0);
        x.mark(0, false);
        x.remake(0);
        same("not PURGEABLE: handle(0, 4)", x.handle(0, 4), 0);
        // squeezed, and thrown away then: it has the LEAST for its SIZE
        MasterHeap y = heap(20, 20, 9, 9);
        y.least(0, 3);
        mark(y, 0);
        y.make(9, 0);
        blocks(y, "0:10:2 10:10:3");
        same("handle(0, 2)", y.handle(0, 2), 3);
        y.drop(2);
        same("remake(0)", y.remake(0), 10);
        blocks(y, "0:10:2 10:4:1 14:6:0");
    }

    @Sentence(promise = {14, 36}, says = "BILL is its COST more.")
    static void theBillIsTheCostMore() {
        int[] costs = {0, 9, 4};
        MasterHeap x = heap(30, 30);
        for (int cost : costs) {
            x.make(4, cost);
        }
        mark(x, 0, 1, 2);
        int[] bills = {0, 9, 13};
        for (int h = 0; h < 3; h++) {
            x.purge(h);
            x.remake(h);
            same("count(4)", x.count(4), bills[h]);
        }
        x.purge(1);
        same("count(4)", x.count(4), 13);
        x.remake(1);
        same("count(4)", x.count(4), 22);
        x.undo();
        same("undone: count(4)", x.count(4), 13);
    }

    @Sentence(promise = {14}, says = "REMAKE: where its BLOCK lies;")
    static void remakeAnswersWhere() {
        MasterHeap x = heap(20, 30, 4, 4, 4);
        mark(x, 1);
        x.purge(1);
        same("at its old place: remake(1)", x.remake(1), 5);
        x.purge(1);
        x.make(4, 0);
        same("elsewhere: remake(1)", x.remake(1), 15);
        same("handle(1, 1)", x.handle(1, 1), 15);
        x.purge(1);
        x.make(4, 0);
        same("by growing: remake(1)", x.remake(1), 20);
        same("count(0)", x.count(0), 25);
    }

    // ---- resize ----

    @Sentence(promise = {15}, says = "RESIZE (of a FULL one, another SIZE): less: the CELLS behind are FREE;")
    static void lessLeavesTheCellsBehindFree() {
        MasterHeap x = heap(20, 20, 9, 4);
        fill(x, 0, 20);
        same("one less: resize(0, 8)", x.resize(0, 8), 0);
        blocks(x, "0:9:1 9:1:0 10:5:2 15:5:0");
        same("the least: resize(0, 1)", x.resize(0, 1), 0);
        blocks(x, "0:2:1 2:8:0 10:5:2 15:5:0");
        same("cell(1)", x.cell(1), 20);
        zeros(x, 3, 10);
        x.lock(1);
        same("of a FIXED one: resize(1, 3)", x.resize(1, 3), 10);
        blocks(x, "0:2:1 2:8:0 10:4:2 14:6:0");
    }

    @Sentence(promise = {15}, says = "more: is there a FREE BLOCK behind with CELLS enough, it takes these;")
    static void moreWhereItLies() {
        Way ahead = x -> {
            lay(x, 30, 30, 4, 4, 4);
            fill(x, 0, 20);
            x.drop(1);
        };
        MasterHeap all = made(ahead);
        blocks(all, "0:5:1 5:5:0 10:5:3 15:15:0");
        same("just enough: resize(0, 9)", all.resize(0, 9), 0);
        blocks(all, "0:10:1 10:5:3 15:15:0");
        filled(all, 0, 20, 4);
        same("get(0, 4)", all.get(0, 4), 0);
        MasterHeap fewer = made(ahead);
        same("one fewer: resize(0, 8)", fewer.resize(0, 8), 0);
        blocks(fewer, "0:9:1 9:1:0 10:5:3 15:15:0");
        MasterHeap more = made(ahead);
        same("one too many: resize(0, 10)", more.resize(0, 10), 15);
        blocks(more, "0:10:0 10:5:3 15:11:1 26:4:0");
        MasterHeap fixed = made(ahead);
        fixed.lock(0);
        same("of a FIXED one: resize(0, 9)", fixed.resize(0, 9), 0);
        MasterHeap last = made(ahead);
        same("to the end of the heap: resize(2, 19)", last.resize(2, 19), 10);
        blocks(last, "0:5:1 5:5:0 10:20:3");
    }

    @Sentence(promise = {15}, says = "else, if it is not FIXED, a BLOCK for it by FIT, by which its own is "
            + "neither SQUEEZED nor PURGED;")
    static void itsOwnIsNeitherSqueezedNorPurged() {
        Way ahead = x -> {
            lay(x, 30, 30, 9, 9);
            fill(x, 0, 40);
            x.least(0, 1);
            x.mark(0, true);
            x.touch(1);
        };
        still(ahead, "resize(0, 10)", x -> x.resize(0, 10), CANNOT);
        MasterHeap squeezed = made(ahead);
        squeezed.least(1, 8);
        same("the other is squeezed: resize(0, 10)", squeezed.resize(0, 10), 19);
        blocks(squeezed, "0:10:0 10:9:2 19:11:1");
        filled(squeezed, 0, 40, 9);
        same("handle(0, 8)", squeezed.handle(0, 8), 1);
        MasterHeap purged = made(ahead);
        purged.mark(1, true);
        same("the other is purged: resize(0, 10)", purged.resize(0, 10), 10);
        blocks(purged, "0:10:0 10:11:1 21:9:0");
        filled(purged, 0, 40, 9);
        // of any other handle, too
        Way second = x -> {
            lay(x, 30, 30, 9, 9, 4);
            fill(x, 1, 40);
            x.least(1, 1);
            x.mark(1, true);
            lock(x, 0, 2);
        };
        still(second, "resize(1, 10)", x -> x.resize(1, 10), CANNOT);
        MasterHeap unlocked = made(second);
        unlocked.unlock(0);
        unlocked.least(0, 3);
        same("resize(1, 10)", unlocked.resize(1, 10), CANNOT);
        unlocked.least(0, 1);
        unlocked.resize(2, 1);
        unlocked.unlock(2);
        same("resize(1, 10)", unlocked.resize(1, 10), 14);
        filled(unlocked, 1, 40, 9);
    }

    @Sentence(promise = {15}, says = "its CONTENTS go there (wherever it lies by then), its own is FREE;")
    static void itsContentsGoThere() {
        // its own slides ahead of that
        MasterHeap x = heap(30, 30, 4, 4, 4);
        fill(x, 1, 10);
        x.drop(0);
        same("resize(1, 16)", x.resize(1, 16), 10);
        blocks(x, "0:5:0 5:5:3 10:17:2 27:3:0");
        filled(x, 1, 10, 4);
        zeros(x, 1, 5);
        same("count(5)", x.count(5), 2);
        // its own is given to another gap ahead of that
        MasterHeap y = heap(22, 22, 4, 1, 4, 1);
        fill(y, 2, 10);
        y.lock(1);
        y.drop(0);
        blocks(y, "0:5:0 5:2:2 7:5:3 12:2:4 14:8:0");
        same("resize(2, 9)", y.resize(2, 9), 9);
        blocks(y, "0:5:0 5:2:2 7:2:4 9:10:3 19:3:0");
        filled(y, 2, 10, 4);
        // by growing
        MasterHeap z = heap(10, 30, 4, 4);
        fill(z, 0, 10);
        same("resize(0, 19)", z.resize(0, 19), 10);
        blocks(z, "0:5:0 5:5:2 10:20:1");
        filled(z, 0, 10, 4);
    }

    @Sentence(promise = {15}, says = "new CELLS are 0; LEAST is SIZE at most.")
    static void newCellsAre0() {
        MasterHeap x = heap(30, 30, 9, 4);
        fill(x, 0, 20);
        x.least(0, 7);
        same("resize(0, 8)", x.resize(0, 8), 0);
        same("LEAST is below: handle(0, 8)", x.handle(0, 8), 7);
        x.resize(0, 7);
        same("LEAST is SIZE: handle(0, 8)", x.handle(0, 8), 7);
        x.resize(0, 6);
        same("LEAST is less then: handle(0, 8)", x.handle(0, 8), 6);
        x.resize(0, 9);
        same("more does not change it: handle(0, 8)", x.handle(0, 8), 6);
        filled(x, 0, 20, 6);
        for (int k = 6; k < 9; k++) {
            same("get(0, " + k + ")", x.get(0, k), 0);
        }
        same("elsewhere: resize(0, 12)", x.resize(0, 12), 15);
        filled(x, 0, 20, 6);
        zeros(x, 22, 28);
    }

    @Sentence(promise = {15}, says = "RESIZE: where its BLOCK lies;")
    static void resizeAnswersWhere() {
        MasterHeap x = heap(200, 200, 30, 1);
        same("less: resize(0, 29)", x.resize(0, 29), 0);
        same("back: resize(0, 30)", x.resize(0, 30), 0);
        same("the greatest, elsewhere: resize(0, 60)", x.resize(0, 60), 33);
        same("the greatest, elsewhere: resize(1, 60)", x.resize(1, 60), 94);
        blocks(x, "0:33:0 33:61:1 94:61:2 155:45:0");
    }

    // ---- unfix, compact, policy ----

    @Sentence(promise = {17}, says = "UNFIX: its ISLAND is FREE, it is UNUSED.")
    static void whatIsUnfixedIsUnused() {
        MasterHeap x = made(Boundaries::islands);
        x.set(1, 0, 5);
        x.unfix(1);
        blocks(x, "0:2:33 2:2:0 4:2:35 6:58:0");
        zeros(x, 3, 4);
        same("pointer(1, 0)", x.pointer(1, 0), NONE);
        same("pointer(1, 1)", x.pointer(1, 1), NONE);
        same("it is the least UNUSED: fix(1)", x.fix(1), 1);
        same("its contents are 0: cell(3)", x.cell(3), 0);
    }

    @Sentence(promise = {17}, says = "UNFIX: true;")
    static void unfixOfTheFirstAndTheLast() {
        MasterHeap x = made(Boundaries::islands);
        same("unfix(0)", x.unfix(0), true);
        same("unfix(2)", x.unfix(2), true);
        same("unfix(1)", x.unfix(1), true);
        blocks(x, "0:64:0");
    }

    @Sentence(promise = {19}, says = "COMPACT: SLIDE, to the end.")
    static void compactSlidesToTheEnd() {
        // to the end, though there is a free block for any N long before
        MasterHeap x = heap(60, 70, 30, 4, 4, 4, 4);
        x.lock(3);
        drop(x, 0, 2);
        x.compact();
        blocks(x, "0:5:2 5:36:0 41:5:4 46:5:5 51:9:0");
        same("it does not grow: count(0)", x.count(0), 60);
        MasterHeap empty = heap(20, 30);
        empty.compact();
        blocks(empty, "0:20:0");
        MasterHeap full = made(Boundaries::full);
        full.compact();
        blocks(full, "0:8:1");
        filled(full, 0, 30, 7);
    }

    @Sentence(promise = {19}, says = "COMPACT: MOVED.")
    static void compactAnswersMoved() {
        same("an empty heap: compact()", new MasterHeap().compact(), 0);
        same("a full heap: compact()", made(Boundaries::full).compact(), 0);
        MasterHeap x = made(Boundaries::eight);
        x.drop(0);
        same("all but one: compact()", x.compact(), 7);
        same("count(5)", x.count(5), 7);
        same("nothing more to do: compact()", x.compact(), 0);
        same("it is an act all the same: count(2)", x.count(2), 11);
        x.drop(7);
        same("the last one's place is free at the end: compact()", x.compact(), 0);
        x.drop(1);
        x.lock(2);
        same("ahead of it all are fixed: compact()", x.compact(), 0);
    }

    @Sentence(promise = {20}, says = "POLICY: another one.")
    static void policyIsAnother() {
        MasterHeap x = heap(20, 20, 4);
        for (int n : new int[] {1, 2, 3, 4, 0}) {
            x.policy(n);
            same("count(3)", x.count(3), n);
        }
        same("no handle is touched: handle(0, 6)", x.handle(0, 6), 1);
        same("count(2)", x.count(2), 6);
    }

    @Sentence(promise = {20}, says = "POLICY (0 to 4): which it was;")
    static void policyAnswersWhichItWas() {
        MasterHeap x = new MasterHeap();
        same("policy(4)", x.policy(4), 0);
        same("policy(0)", x.policy(0), 4);
        same("policy(1)", x.policy(1), 0);
        same("policy(2)", x.policy(2), 1);
        same("policy(3)", x.policy(3), 2);
        same("policy(4)", x.policy(4), 3);
    }

    // ---- touched, moved, undone ----

    @Sentence(promise = {22}, says = "TOUCHED are the HANDLES of MAKE, PUT, TOUCH, LOCK, HIGH, REMAKE, RESIZE.")
    static void whichActsTouch() {
        // which of the acts touches which handle; NONE: none
        int[] touched = {0, 1, 0, 0, 0, 0, NONE, 1, NONE, NONE, NONE, NONE, 0, 0, NONE, NONE, NONE, NONE, NONE, NONE,
            NONE, NONE};
        MasterHeap x = heap(40, 60);
        for (int act = 0; act < ACTS.length; act++) {
            int[] due = {x.handle(0, 6), x.handle(1, 6)};
            ACTS[act].of(x);
            if (touched[act] != NONE) {
                due[touched[act]] = act + 1;
            }
            same("behind act " + act + ": handle(0, 6)", x.handle(0, 6), due[0]);
            boolean dropped = act == ACTS.length - 1;
            same("behind act " + act + ": handle(1, 6)", x.handle(1, 6), dropped ? NONE : due[1]);
        }
    }

    @Sentence(promise = {22}, says = "TOUCHED are the HANDLES of MAKE, PUT, TOUCH, LOCK, HIGH, REMAKE, RESIZE.")
    static void whoIsMovedSqueezedOrPurgedIsNotTouched() {
        MasterHeap x = heap(20, 20, 4, 4, 4);
        x.drop(0);
        x.make(7, 0);
        blocks(x, "0:5:2 5:5:3 10:8:1 18:2:0");
        same("moved: handle(1, 6)", x.handle(1, 6), 2);
        MasterHeap y = heap(20, 20, 9, 9);
        y.least(0, 4);
        mark(y, 1);
        y.make(9, 0);
        blocks(y, "0:5:1 5:10:3 15:5:0");
        same("squeezed: handle(0, 6)", y.handle(0, 6), 1);
        same("purged: handle(1, 6)", y.handle(1, 6), 2);
    }

    @Sentence(promise = {36}, says = "MOVED: how many HANDLES that were FULL ahead of the last ACT, and are "
            + "behind it, have their BLOCK at another place")
    static void howManyMoved() {
        MasterHeap x = heap(40, 40, 4, 4, 4, 4);
        same("none was FULL ahead: count(5)", x.count(5), 0);
        x.drop(0);
        same("not FULL behind it: count(5)", x.count(5), 0);
        x.compact();
        same("count(5)", x.count(5), 3);
        x.touch(1);
        same("of the last ACT: count(5)", x.count(5), 0);
        x.high(1);
        same("count(5)", x.count(5), 1);
        same("what is refused is no ACT: high(1)", x.high(1), NONE);
        same("count(5)", x.count(5), 1);
        mark(x, 2);
        x.purge(2);
        same("not FULL behind it: count(5)", x.count(5), 0);
        x.compact();
        same("count(5)", x.count(5), 1);
        x.remake(2);
        same("not FULL ahead of it: count(5)", x.count(5), 0);
        x.resize(2, 5);
        same("longer where it lies: count(5)", x.count(5), 0);
        x.fix(2);
        same("an ISLAND is no HANDLE: count(5)", x.count(5), 1);
    }

    @Sentence(promise = {36}, says = "(0 behind START, and behind what is UNDONE).")
    static void noneMovedBehindStartAndUndo() {
        Way moved = x -> {
            lay(x, 40, 40, 4, 4);
            x.drop(0);
            x.compact();
        };
        MasterHeap x = made(moved);
        same("count(5)", x.count(5), 1);
        x.start(30, 30);
        same("behind START: count(5)", x.count(5), 0);
        MasterHeap y = made(moved);
        y.start(7, 7);
        same("a START that is refused: count(5)", y.count(5), 1);
        y.touch(1);
        y.undo();
        same("behind what is UNDONE, though the act ahead of it has moved: count(5)", y.count(5), 0);
        y.undo();
        same("behind what is UNDONE: count(5)", y.count(5), 0);
        y.compact();
        same("done again: count(5)", y.count(5), 1);
    }

    @Sentence(promise = {21, 36}, says = "The last 12 ACTS can be UNDONE, the last first:")
    static void theLast12CanBeUndone() {
        MasterHeap x = heap(20, 20, 1);
        for (int v = 1; v <= 11; v++) {
            x.put(0, 0, v);
        }
        same("12 acts: count(6)", x.count(6), 12);
        for (int left = 11; left >= 0; left--) {
            same("undo()", x.undo(), left);
            same("get(0, 0)", x.get(0, 0), Math.max(0, left - 1));
        }
        same("the first act, too: handle(0, 0)", x.handle(0, 0), 0);
        same("a 13th: undo()", x.undo(), NONE);
        x.make(1, 0);
        for (int v = 1; v <= 12; v++) {
            x.put(0, 0, v);
        }
        same("13 acts: count(6)", x.count(6), 12);
        for (int left = 11; left >= 0; left--) {
            same("undo()", x.undo(), left);
        }
        same("the first act is not: handle(0, 0)", x.handle(0, 0), 1);
        same("get(0, 0)", x.get(0, 0), 0);
        same("undo()", x.undo(), NONE);
    }

    @Sentence(promise = {21, 36}, says = "The last 12 ACTS can be UNDONE, the last first:")
    static void actsAndUndosByTurns() {
        MasterHeap x = heap(20, 20, 1);
        int clock = 1;
        for (int turn = 0; turn < 60; turn++) {
            x.put(0, 0, 100 + turn);
            x.put(0, 0, 200 + turn);
            same("undo()", x.undo(), Math.min(turn + 2, 11));
            clock++;
            same("get(0, 0)", x.get(0, 0), 100 + turn);
            same("count(2)", x.count(2), clock);
        }
        same("count(6)", x.count(6), 11);
        for (int turn = 59; turn > 48; turn--) {
            same("get(0, 0)", x.get(0, 0), 100 + turn);
            same("undo()", x.undo(), turn - 49);
        }
        same("get(0, 0)", x.get(0, 0), 148);
        same("undo()", x.undo(), NONE);
    }

    @Sentence(promise = {21}, says = "all is as ahead of it (CLOCK, too).")
    static void allIsAsAheadOfIt() {
        for (int act = 0; act < ACTS.length; act++) {
            int acts = act;
            // as if the act had not been: but of what was ahead of that the oldest may be forgotten
            String ahead = stateOf(x -> goTo(x, acts));
            String undone = stateOf(x -> {
                goTo(x, acts + 1);
                x.undo();
            });
            same("act " + act + " undone: that", undone.equals(ahead), true);
        }
    }

    @Sentence(promise = {21}, says = "all is as ahead of it (CLOCK, too).")
    static void whatAFitHasDoneIsUndone() {
        // it slides, grows, squeezes and purges, and is there then
        Way ahead = x -> {
            lay(x, 40, 50, 4, 4, 9, 9, 2);
            fill(x, 2, 10);
            x.least(3, 2);
            mark(x, 2, 4);
            x.drop(0);
        };
        MasterHeap x = made(ahead);
        same("make(41, 0)", x.make(41, 0), 0);
        same("count(0)", x.count(0), 50);
        same("handle(2, 0)", x.handle(2, 0), 2);
        same("handle(3, 2)", x.handle(3, 2), 2);
        String undone = stateOf(y -> {
            ahead.go(y);
            y.make(41, 0);
            y.undo();
        });
        same("undone: that", undone.equals(stateOf(ahead)), true);
    }

    /** What is as ahead of an act that is undone: all but MOVED, AFTER, and how many can be undone. */
    private static String stateOf(Way way) {
        StringBuilder text = new StringBuilder();
        MasterHeap x = made(way);
        for (int what = 0; what <= 4; what++) {
            text.append(x.count(what)).append(' ');
        }
        int size = x.count(0);
        for (int k = 0; k < size; k++) {
            text.append(x.cell(k)).append(' ');
        }
        for (int h = 0; h < 8; h++) {
            for (int what = 0; what <= 8; what++) {
                text.append(x.handle(h, what)).append(' ');
            }
        }
        for (int p = 0; p < 3; p++) {
            text.append(x.pointer(p, 0)).append(' ').append(x.pointer(p, 1)).append(' ');
        }
        return text.append(blocksOf(made(way))).toString();
    }

    @Sentence(promise = {21}, says = "The last ACT is UNDONE: how many more can be;")
    static void undoAnswersHowManyMore() {
        MasterHeap x = heap(20, 20);
        x.make(4, 0);
        same("one act: undo()", x.undo(), 0);
        x.make(4, 0);
        x.touch(0);
        same("two acts: undo()", x.undo(), 1);
        same("what is refused is none: make(0, 0)", x.make(0, 0), NONE);
        same("what is refused is none: make(60, 0)", x.make(60, 0), CANNOT);
        same("undo()", x.undo(), 0);
    }
}
