/** Calls that are refused: what they answer, and that nothing happens by them. */
final class RefusedBoundaries extends Boundaries {
    private static final int UNUSED = 4;
    private static final int EMPTY = 3;
    private static final int LOCKED = 1;

    /** Numbers that are no handle; 8 to 10 must not be taken for pointers. */
    private static final int[] NO_HANDLES = {MIN, -8, -1, 8, 9, 10, 11, 32, MAX};
    /** Numbers that are no pointer; -8 to -1 must not be taken for handles. */
    private static final int[] NO_POINTERS = {MIN, -9, -8, -1, 3, 8, 33, MAX};

    private static final Way RICH = Boundaries::rich;

    private RefusedBoundaries() {
    }

    /** A call that is told a handle or a pointer. */
    private interface CallOf {
        int of(MasterHeap x, int number);
    }

    /** Refused for what is no handle, and for the first and the last that are UNUSED. */
    private static void refusedWithoutHandle(String name, CallOf call, int want) {
        Way islands = Boundaries::islands;
        for (int handle : NO_HANDLES) {
            still(RICH, name + " of " + handle, x -> call.of(x, handle), want);
            still(islands, name + " of " + handle + ", all pointers have islands", x -> call.of(x, handle), want);
        }
        still(RICH, name + " of an UNUSED one", x -> call.of(x, UNUSED), want);
        still(RICH, name + " of the last UNUSED one", x -> call.of(x, 7), want);
    }

    private static void refusedWithoutPointer(String name, CallOf call, int want) {
        for (int pointer : NO_POINTERS) {
            still(RICH, name + " of " + pointer, x -> call.of(x, pointer), want);
        }
        still(RICH, name + " of an UNUSED one", x -> call.of(x, 1), want);
        still(RICH, name + " of the last UNUSED one", x -> call.of(x, 2), want);
        Way eight = Boundaries::eight;
        for (int pointer = -8; pointer <= -1; pointer++) {
            int number = pointer;
            still(eight, name + " of " + pointer + ", all handles are FULL", x -> call.of(x, number), want);
        }
    }

    // ---- make, put, set ----

    @Sentence(promise = {3}, says = "-2, and nothing happens: there is no FIT;")
    static void makeWithoutAFit() {
        still(Boundaries::full, "a full heap: make(1, 0)", x -> x.make(1, 0), CANNOT);
        Way oneCell = x -> lay(x, 10, 10, 8);
        still(oneCell, "one cell is FREE: make(1, 0)", x -> x.make(1, 0), CANNOT);
        Way twoCells = x -> lay(x, 10, 10, 7);
        same("two cells are FREE: make(1, 0)", made(twoCells).make(1, 0), 1);
        still(twoCells, "one too many: make(2, 0)", x -> x.make(2, 0), CANNOT);
        still(x -> x.start(8, 60), "more than MOST: make(60, 9)", x -> x.make(60, 9), CANNOT);
        still(RICH, "make(40, 0)", x -> x.make(40, 0), CANNOT);
        Way gaps = Boundaries::gaps;
        still(gaps, "in no order of the blocks: make(15, 0)", x -> x.make(15, 0), CANNOT);
    }

    @Sentence(promise = {3}, says = "NONE, and nothing happens, without these (a HANDLE that is UNUSED).")
    static void makeWithoutThese() {
        int[][] wrong = {{0, 0}, {61, 0}, {-1, 0}, {MIN, 0}, {MAX, 0}, {1, -1}, {1, 10}, {1, MIN}, {1, MAX}, {0, 10}};
        for (int[] each : wrong) {
            still(RICH, "make(" + each[0] + ", " + each[1] + ")", x -> x.make(each[0], each[1]), NONE);
        }
        Way eight = Boundaries::eight;
        still(eight, "a ninth: make(1, 0)", x -> x.make(1, 0), NONE);
        still(eight, "a ninth without a FIT: make(60, 0)", x -> x.make(60, 0), NONE);
        Way empty = x -> {
            eight(x);
            mark(x, 0, 1, 2, 3, 4, 5, 6, 7);
            for (int h = 0; h < 8; h++) {
                x.purge(h);
            }
        };
        still(empty, "all are EMPTY, none UNUSED: make(1, 0)", x -> x.make(1, 0), NONE);
        still(Boundaries::full, "no FIT, but no such SIZE either: make(61, 0)", x -> x.make(61, 0), NONE);
        Way seven = x -> {
            eight(x);
            x.drop(6);
        };
        same("one is left: make(1, 0)", made(seven).make(1, 0), 6);
    }

    @Sentence(promise = {4}, says = "0, and nothing happens, without these.")
    static void putWithoutThese() {
        refusedWithoutHandle("put", (x, h) -> x.put(h, 0, 5), 0);
        still(RICH, "of an EMPTY one: put(3, 0, 5)", x -> x.put(EMPTY, 0, 5), 0);
        for (int k : new int[] {MIN, -2, -1, 9, 10, 59, 60, 61, MAX}) {
            still(RICH, "put(0, " + k + ", 5)", x -> x.put(0, k, 5), 0);
        }
        still(RICH, "behind the last of 4: put(1, 4, 5)", x -> x.put(1, 4, 5), 0);
        Way filled = Boundaries::full;
        still(filled, "the header: put(0, -1, 5)", x -> x.put(0, -1, 5), 0);
        still(filled, "behind the last: put(0, 7, 5)", x -> x.put(0, 7, 5), 0);
        Way two = x -> {
            lay(x, 20, 20, 3, 3);
            fill(x, 0, 10);
            fill(x, 1, 20);
            x.resize(0, 2);
        };
        still(two, "what it has no more: put(0, 2, 5)", x -> x.put(0, 2, 5), 0);
    }

    @Sentence(promise = {5}, says = "0, and nothing happens, without these.")
    static void setWithoutThese() {
        refusedWithoutPointer("set", (x, p) -> x.set(p, 0, 5), 0);
        for (int k : new int[] {MIN, -1, 3, 4, 59, 60, MAX}) {
            still(RICH, "set(0, " + k + ", 5)", x -> x.set(0, k, 5), 0);
        }
        Way islands = x -> {
            islands(x);
            x.set(0, 0, 5);
            x.set(1, 0, 6);
            x.set(2, 0, 7);
            x.unfix(1);
        };
        still(islands, "the header: set(0, -1, 9)", x -> x.set(0, -1, 9), 0);
        still(islands, "behind the last: set(2, 1, 9)", x -> x.set(2, 1, 9), 0);
        still(islands, "it is UNUSED again: set(1, 0, 9)", x -> x.set(1, 0, 9), 0);
    }

    // ---- touch, lock, unlock, high ----

    @Sentence(promise = {6}, says = "false, and nothing happens, without it.")
    static void touchWithoutIt() {
        refusedWithoutHandle("touch", (x, h) -> bit(x.touch(h)), 0);
        Way dropped = x -> {
            rich(x);
            x.drop(0);
        };
        still(dropped, "of one that was let go: touch(0)", x -> bit(x.touch(0)), 0);
    }

    @Sentence(promise = {7}, says = "NONE, and nothing happens, without these, or if it has 7.")
    static void lockWithoutThese() {
        refusedWithoutHandle("lock", (x, h) -> x.lock(h), NONE);
        still(RICH, "of an EMPTY one: lock(3)", x -> x.lock(EMPTY), NONE);
        Way six = x -> {
            rich(x);
            lock(x, 0, 0, 0, 0, 0, 0);
        };
        same("with 6: lock(0)", made(six).lock(0), 7);
        Way seven = x -> {
            six.go(x);
            x.lock(0);
        };
        still(seven, "with 7: lock(0)", x -> x.lock(0), NONE);
    }

    @Sentence(promise = {8}, says = "NONE, and nothing happens, without any.")
    static void unlockWithoutAny() {
        refusedWithoutHandle("unlock", (x, h) -> x.unlock(h), NONE);
        still(RICH, "without any LOCKS: unlock(0)", x -> x.unlock(0), NONE);
        still(RICH, "of an EMPTY one: unlock(3)", x -> x.unlock(EMPTY), NONE);
        Way none = x -> {
            rich(x);
            x.unlock(LOCKED);
        };
        same("the last LOCK: unlock(1)", made(RICH).unlock(LOCKED), 0);
        still(none, "none is left: unlock(1)", x -> x.unlock(LOCKED), NONE);
    }

    @Sentence(promise = {9}, says = "NONE, and nothing happens, without these.")
    static void highWithoutThese() {
        refusedWithoutHandle("high", (x, h) -> x.high(h), NONE);
        still(RICH, "with a LOCK: high(1)", x -> x.high(LOCKED), NONE);
        still(RICH, "of an EMPTY one: high(3)", x -> x.high(EMPTY), NONE);
    }

    // ---- mark, let go, least, purge ----

    @Sentence(promise = {10}, says = "false, and nothing happens: it is so, or without it.")
    static void markWhatIsSo() {
        refusedWithoutHandle("mark true", (x, h) -> bit(x.mark(h, true)), 0);
        refusedWithoutHandle("mark false", (x, h) -> bit(x.mark(h, false)), 0);
        still(RICH, "it is not: mark(0, false)", x -> bit(x.mark(0, false)), 0);
        still(RICH, "it is, and is EMPTY: mark(3, true)", x -> bit(x.mark(EMPTY, true)), 0);
        Way marked = x -> {
            rich(x);
            x.mark(0, true);
        };
        still(marked, "it is: mark(0, true)", x -> bit(x.mark(0, true)), 0);
        Way dropped = x -> {
            marked.go(x);
            x.drop(0);
        };
        still(dropped, "it was, and is UNUSED: mark(0, false)", x -> bit(x.mark(0, false)), 0);
    }

    @Sentence(promise = {11}, says = "false, and nothing happens, without these.")
    static void letGoWithoutThese() {
        refusedWithoutHandle("drop", (x, h) -> bit(x.drop(h)), 0);
        still(RICH, "with a LOCK: drop(1)", x -> bit(x.drop(LOCKED)), 0);
        Way seven = x -> {
            rich(x);
            lock(x, 1, 1, 1, 1, 1, 1);
        };
        still(seven, "with 7: drop(1)", x -> bit(x.drop(LOCKED)), 0);
    }

    @Sentence(promise = {12}, says = "NONE, and nothing happens, without these (another one).")
    static void leastWithoutThese() {
        refusedWithoutHandle("least", (x, h) -> x.least(h, 1), NONE);
        still(RICH, "of an EMPTY one: least(3, 1)", x -> x.least(EMPTY, 1), NONE);
        for (int n : new int[] {MIN, -1, 0, 5, 6, 60, 61, MAX}) {
            still(RICH, "of SIZE 4: least(2, " + n + ")", x -> x.least(2, n), NONE);
        }
        still(RICH, "the same one: least(2, 2)", x -> x.least(2, 2), NONE);
        still(RICH, "the same one, SIZE: least(0, 9)", x -> x.least(0, 9), NONE);
        same("one more: least(2, 3)", made(RICH).least(2, 3), 2);
        same("one less: least(2, 1)", made(RICH).least(2, 1), 2);
        same("SIZE: least(2, 4)", made(RICH).least(2, 4), 2);
    }

    @Sentence(promise = {13}, says = "false, and nothing happens, without one that CAN GO.")
    static void purgeWithoutOneThatCanGo() {
        refusedWithoutHandle("purge", (x, h) -> bit(x.purge(h)), 0);
        still(RICH, "not PURGEABLE: purge(0)", x -> bit(x.purge(0)), 0);
        still(RICH, "EMPTY: purge(3)", x -> bit(x.purge(EMPTY)), 0);
        Way locked = x -> {
            rich(x);
            x.mark(LOCKED, true);
        };
        still(locked, "with a LOCK: purge(1)", x -> bit(x.purge(LOCKED)), 0);
        Way unlocked = x -> {
            locked.go(x);
            x.unlock(LOCKED);
        };
        same("without: purge(1)", made(unlocked).purge(LOCKED), true);
        Way unmarked = x -> {
            unlocked.go(x);
            x.mark(LOCKED, false);
        };
        still(unmarked, "not PURGEABLE any more: purge(1)", x -> bit(x.purge(LOCKED)), 0);
    }

    // ---- remake, resize ----

    @Sentence(promise = {14}, says = "-2, and nothing happens: there is no FIT;")
    static void remakeWithoutAFit() {
        // 4 cells are FREE for 5
        Way short1 = x -> {
            lay(x, 20, 20, 4, 9);
            mark(x, 0);
            x.purge(0);
            x.make(5, 0);
        };
        blocks(made(short1), "0:10:2 10:6:3 16:4:0");
        still(short1, "remake(0)", x -> x.remake(0), CANNOT);
        Way enough = x -> {
            short1.go(x);
            x.resize(2, 4);
        };
        same("one more: remake(0)", made(enough).remake(0), 15);
        // it slides, squeezes and purges in vain
        Way vain = x -> {
            lay(x, 20, 20, 9, 4, 4);
            mark(x, 0, 1);
            x.purge(0);
            x.make(8, 0);
            x.lock(3);
            x.least(1, 2);
            x.touch(1);
        };
        blocks(made(vain), "0:9:4 9:1:0 10:5:2 15:5:3");
        still(vain, "remake(0)", x -> x.remake(0), CANNOT);
    }

    @Sentence(promise = {14}, says = "NONE, and nothing happens, without these.")
    static void remakeWithoutThese() {
        refusedWithoutHandle("remake", (x, h) -> x.remake(h), NONE);
        still(RICH, "of a FULL one: remake(0)", x -> x.remake(0), NONE);
        still(RICH, "of a FULL one with a LOCK: remake(1)", x -> x.remake(LOCKED), NONE);
        Way again = x -> {
            rich(x);
            x.remake(EMPTY);
        };
        still(again, "it is FULL again: remake(3)", x -> x.remake(EMPTY), NONE);
    }

    @Sentence(promise = {15}, says = "-2, and nothing happens: there is no FIT, or it is FIXED;")
    static void resizeWithoutAFitOrFixed() {
        Way two = x -> {
            lay(x, 20, 20, 4, 4);
            fill(x, 0, 10);
        };
        same("10 cells behind, by FIT: resize(0, 9)", made(two).resize(0, 9), 10);
        still(two, "there is no FIT: resize(0, 10)", x -> x.resize(0, 10), CANNOT);
        same("10 cells behind: resize(1, 14)", made(two).resize(1, 14), 5);
        still(two, "there is no FIT: resize(1, 15)", x -> x.resize(1, 15), CANNOT);
        Way fixed = x -> {
            two.go(x);
            lock(x, 0, 1);
        };
        still(fixed, "it is FIXED: resize(0, 5)", x -> x.resize(0, 5), CANNOT);
        same("it is FIXED, 10 cells behind: resize(1, 14)", made(fixed).resize(1, 14), 5);
        still(fixed, "it is FIXED: resize(1, 15)", x -> x.resize(1, 15), CANNOT);
        Way canGrow = x -> {
            lay(x, 10, 60, 9);
            x.lock(0);
        };
        still(canGrow, "a FIXED one does not let it grow: resize(0, 10)", x -> x.resize(0, 10), CANNOT);
        Way fullHeap = Boundaries::full;
        still(fullHeap, "a full heap: resize(0, 8)", x -> x.resize(0, 8), CANNOT);
    }

    @Sentence(promise = {15}, says = "NONE, and nothing happens, without these (another SIZE, 1 to 60).")
    static void resizeWithoutThese() {
        refusedWithoutHandle("resize", (x, h) -> x.resize(h, 3), NONE);
        still(RICH, "of an EMPTY one: resize(3, 4)", x -> x.resize(EMPTY, 4), NONE);
        still(RICH, "the same SIZE: resize(0, 9)", x -> x.resize(0, 9), NONE);
        still(RICH, "the same SIZE, with a LOCK: resize(1, 4)", x -> x.resize(LOCKED, 4), NONE);
        for (int size : new int[] {MIN, -1, 0, 61, MAX}) {
            still(RICH, "resize(0, " + size + ")", x -> x.resize(0, size), NONE);
            still(RICH, "with a LOCK: resize(1, " + size + ")", x -> x.resize(LOCKED, size), NONE);
        }
        same("one less: resize(0, 8)", made(RICH).resize(0, 8), 30);
        same("one more: resize(0, 10)", made(RICH).resize(0, 10), 30);
    }

    // ---- fix, unfix, reserve ----

    @Sentence(promise = {16}, says = "-2, and nothing happens: it can't be;")
    static void fixWhereItCantBe() {
        still(Boundaries::full, "a full heap: fix(1)", x -> x.fix(1), CANNOT);
        Way small = x -> x.start(8, 60);
        same("all of MOST: fix(59)", made(small).fix(59), 0);
        still(small, "one more: fix(60)", x -> x.fix(60), CANNOT);
        still(RICH, "fix(30)", x -> x.fix(30), CANNOT);
        Way two = x -> {
            lay(x, 20, 20, 9, 4);
            x.lock(0);
        };
        same("the second goes: fix(4)", made(two).fix(4), 0);
        still(two, "it can't go: fix(5)", x -> x.fix(5), CANNOT);
    }

    @Sentence(promise = {16}, says = "NONE, and nothing happens, without these (a POINTER that is UNUSED).")
    static void fixWithoutThese() {
        for (int size : new int[] {MIN, -1, 0, 61, MAX}) {
            still(RICH, "fix(" + size + ")", x -> x.fix(size), NONE);
        }
        Way islands = Boundaries::islands;
        still(islands, "a fourth: fix(1)", x -> x.fix(1), NONE);
        still(islands, "a fourth that can't be: fix(60)", x -> x.fix(60), NONE);
        Way two = x -> {
            islands(x);
            x.unfix(2);
        };
        same("one is left: fix(1)", made(two).fix(1), 2);
        still(Boundaries::full, "it can't be, but no such SIZE either: fix(61)", x -> x.fix(61), NONE);
    }

    @Sentence(promise = {17}, says = "false, and nothing happens, without it.")
    static void unfixWithoutIt() {
        refusedWithoutPointer("unfix", (x, p) -> bit(x.unfix(p)), 0);
        Way gone = x -> {
            rich(x);
            x.unfix(0);
        };
        still(gone, "it is UNUSED again: unfix(0)", x -> bit(x.unfix(0)), 0);
    }

    @Sentence(promise = {18}, says = "-2, and nothing happens: none can be CLEARED;")
    static void reserveWhereNoneCanBeCleared() {
        Way fullHeap = Boundaries::full;
        still(fullHeap, "a full heap: reserve(1)", x -> x.reserve(1), CANNOT);
        Way small = x -> x.start(40, 60);
        same("all of it: reserve(39)", made(small).reserve(39), 0);
        still(small, "it does not grow: reserve(40)", x -> x.reserve(40), CANNOT);
        still(RICH, "reserve(20)", x -> x.reserve(20), CANNOT);
        Way two = x -> {
            lay(x, 20, 60, 9, 4);
            x.lock(0);
        };
        same("the second goes: reserve(4)", made(two).reserve(4), 10);
        still(two, "it can't go: reserve(5)", x -> x.reserve(5), CANNOT);
    }

    @Sentence(promise = {18}, says = "NONE, and nothing happens, without these (SIZE 1 to 60).")
    static void reserveWithoutThese() {
        for (int size : new int[] {MIN, -1, 0, 61, 199, MAX}) {
            still(RICH, "reserve(" + size + ")", x -> x.reserve(size), NONE);
            still(x -> x.start(200, 200), "reserve(" + size + ")", x -> x.reserve(size), NONE);
        }
        same("the least: reserve(1)", heap(200, 200).reserve(1), 0);
        same("the greatest: reserve(60)", heap(200, 200).reserve(60), 0);
        Way islands = Boundaries::islands;
        same("no POINTER is wanted: reserve(1)", made(islands).reserve(1), 6);
        Way eight = Boundaries::eight;
        same("no HANDLE is wanted: reserve(1)", made(eight).reserve(1), 0);
    }

    // ---- policy, undo ----

    @Sentence(promise = {20}, says = "NONE, and nothing happens, for others, or if it is so.")
    static void policyForOthers() {
        for (int n : new int[] {MIN, -1, 5, 6, MAX}) {
            still(RICH, "policy(" + n + ")", x -> x.policy(n), NONE);
        }
        still(RICH, "it is so: policy(0)", x -> x.policy(0), NONE);
        for (int n = 1; n <= 4; n++) {
            int same = n;
            Way told = x -> {
                rich(x);
                x.policy(same);
            };
            still(told, "it is so: policy(" + n + ")", x -> x.policy(same), NONE);
        }
    }

    @Sentence(promise = {21}, says = "NONE, and nothing happens: none can.")
    static void undoWhereNoneCan() {
        still(x -> { }, "a new object: undo()", x -> x.undo(), NONE);
        still(x -> x.start(30, 40), "behind START: undo()", x -> x.undo(), NONE);
        Way restarted = x -> {
            rich(x);
            x.start(30, 40);
        };
        still(restarted, "behind acts and START: undo()", x -> x.undo(), NONE);
        Way undone = x -> {
            lay(x, 30, 40, 4, 4);
            x.undo();
            x.undo();
        };
        still(undone, "all are undone: undo()", x -> x.undo(), NONE);
        Way twelve = x -> {
            rich(x);
            for (int k = 0; k < 12; k++) {
                x.undo();
            }
        };
        still(twelve, "12 are undone: undo()", x -> x.undo(), NONE);
        still(x -> x.make(0, 0), "only what was refused: undo()", x -> x.undo(), NONE);
    }
}
