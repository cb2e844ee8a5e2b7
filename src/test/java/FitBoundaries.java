/** The document's second part: FIT by its six steps, seen by make and would. */
final class FitBoundaries extends Boundaries {
    private FitBoundaries() {
    }

    @Sentence(promise = {3, 28}, says = "FIT of N CELLS, by these, one behind the other, until there is a FREE "
            + "BLOCK of N CELLS at least:")
    static void oneStepBehindTheOther() {
        MasterHeap x = made(Boundaries::steps);
        blocks(x, "0:5:0 5:5:2 10:5:0 15:5:4 20:5:5 25:5:0");
        would(x, 1, 1, 0, 0, 30, 0);
        would(x, 4, 1, 0, 0, 30, 0);
        would(x, 5, 2, 0, 5, 30, 0);
        would(x, 9, 2, 0, 5, 30, 0);
        would(x, 10, 3, 0, 25, 36, 0);
        would(x, 11, 4, 0, 20, 36, 0);
        would(x, 15, 4, 0, 20, 36, 0);
        noFit(x, 16);
    }

    @Sentence(promise = {3, 28}, says = "1 the first such one there is.")
    static void theFirstFreeBlockThatIsLongEnough() {
        // free blocks of 4, 5, 6 and 9 cells
        Way ahead = x -> {
            lay(x, 30, 30, 3, 1, 4, 1, 5, 1);
            drop(x, 0, 2, 4);
        };
        MasterHeap x = made(ahead);
        blocks(x, "0:4:0 4:2:2 6:5:0 11:2:4 13:6:0 19:2:6 21:9:0");
        int[] places = {0, 0, 0, 6, 13, 21, 21, 21};
        for (int size = 1; size <= 8; size++) {
            would(x, size, 1, 0, places[size - 1], 30, 0);
        }
        same("longer than any: would(9, 0)", x.would(9, 0), 2);
        same("make(4, 0)", x.make(4, 0), 0);
        blocks(x, "0:4:0 4:2:2 6:5:1 11:2:4 13:6:0 19:2:6 21:9:0");
        same("in an empty heap, all of it: would(7, 0)", heap(8, 8).would(7, 0), 1);
        same("in an empty heap, one more: would(8, 0)", heap(8, 8).would(8, 0), CANNOT);
        same("in a full heap: would(1, 0)", made(Boundaries::full).would(1, 0), CANNOT);
    }

    @Sentence(promise = {3, 19, 28}, says = "2 SLIDE: the first FREE BLOCK behind which a LOOSE one lies that is "
            + "not FIXED: both change places (CONTENTS and all),")
    static void theFirstThatCanSlideSlides() {
        // ahead of a FIXED one lies a FREE one too: it is not the first
        MasterHeap x = heap(30, 30, 2, 2, 3, 4, 1);
        x.lock(1);
        drop(x, 0, 2);
        fill(x, 3, 30);
        fill(x, 4, 50);
        blocks(x, "0:3:0 3:3:2 6:4:0 10:5:4 15:2:5 17:13:0");
        would(x, 12, 1, 0, 17, 30, 0);
        would(x, 13, 2, 0, 13, 30, 0);
        would(x, 16, 2, 0, 13, 30, 0);
        would(x, 17, 4, 0, 11, 30, 0);
        same("compact()", x.compact(), 2);
        blocks(x, "0:3:0 3:3:2 6:5:4 11:2:5 13:17:0");
        filled(x, 3, 30, 4);
        filled(x, 4, 50, 1);
        same("cell(7)", x.cell(7), 30);
        same("cell(12)", x.cell(12), 50);
        // one FREE cell ahead of a FIXED one, a LOOSE one close behind that
        MasterHeap one = heap(20, 20, 2, 1, 1);
        one.resize(0, 1);
        one.lock(1);
        blocks(one, "0:2:1 2:1:0 3:2:2 5:2:3 7:13:0");
        same("compact()", one.compact(), 0);
        blocks(one, "0:2:1 2:1:0 3:2:2 5:2:3 7:13:0");
        // ahead of an ISLAND
        MasterHeap y = heap(12, 12);
        y.fix(3);
        y.fix(3);
        y.fix(3);
        y.unfix(1);
        noFit(y, 4);
        same("compact()", y.compact(), 0);
        blocks(y, "0:4:33 4:4:0 8:4:35");
    }

    @Sentence(promise = {3, 28}, says = "the FREE one is one with a FREE one behind it then;")
    static void whatSlidIsOneWithTheFreeOneBehind() {
        MasterHeap x = heap(20, 20, 4, 4, 4, 4);
        drop(x, 0, 2);
        blocks(x, "0:5:0 5:5:2 10:5:0 15:5:4");
        would(x, 9, 2, 0, 5, 20, 0);
        noFit(x, 10);
        // no FREE one behind it: it is as long as it was
        MasterHeap y = heap(15, 15, 4, 4, 4);
        drop(y, 0);
        noFit(y, 5);
        would(y, 4, 1, 0, 0, 15, 0);
    }

    @Sentence(promise = {3, 19, 28}, says = "again, as long as there is any; as soon as the FREE one has N CELLS "
            + "it ends, and that is it.")
    static void itSlidesNoFurtherThanItMust() {
        Way ahead = x -> {
            lay(x, 45, 45, 4, 4, 4, 4, 4, 4, 14);
            drop(x, 0, 2, 4);
        };
        MasterHeap one = made(ahead);
        blocks(one, "0:5:0 5:5:2 10:5:0 15:5:4 20:5:0 25:5:6 30:15:7");
        would(one, 9, 2, 0, 5, 45, 0);
        one.make(9, 0);
        blocks(one, "0:5:2 5:10:1 15:5:4 20:5:0 25:5:6 30:15:7");
        MasterHeap two = made(ahead);
        would(two, 10, 2, 0, 10, 45, 0);
        two.make(10, 0);
        blocks(two, "0:5:2 5:5:4 10:11:1 21:4:0 25:5:6 30:15:7");
        MasterHeap exact = made(ahead);
        would(exact, 14, 2, 0, 10, 45, 0);
        noFit(exact, 15);
        exact.compact();
        blocks(exact, "0:5:2 5:5:4 10:5:6 15:15:7 30:15:0");
    }

    @Sentence(promise = {3, 16, 28}, says = "3 GROW: SIZE becomes the least, MOST at most, by which the last "
            + "BLOCK, if it is FREE (else a FREE one behind it), has N CELLS; has it so many, that is it;")
    static void itGrowsByTheLeast() {
        MasterHeap x = heap(20, 50, 9, 8);
        blocks(x, "0:10:1 10:9:2 19:1:0");
        would(x, 1, 3, 0, 19, 21, 0);
        would(x, 5, 3, 0, 19, 25, 0);
        would(x, 30, 3, 0, 19, 50, 0);
        noFit(x, 31);
        x.make(5, 0);
        blocks(x, "0:10:1 10:9:2 19:6:3");
        same("count(0)", x.count(0), 25);
        would(x, 1, 3, 0, 25, 27, 0);
        would(x, 24, 3, 0, 25, 50, 0);
        noFit(x, 25);
        x.make(24, 0);
        blocks(x, "0:10:1 10:9:2 19:6:3 25:25:4");
        noFit(x, 1);
        MasterHeap empty = heap(8, 40);
        would(empty, 7, 1, 0, 0, 8, 0);
        would(empty, 8, 3, 0, 0, 9, 0);
        would(empty, 39, 3, 0, 0, 40, 0);
        noFit(empty, 40);
    }

    @Sentence(promise = {28}, says = "else SIZE is MOST.")
    static void inVainItIsGrownToMost() {
        // found by order of the blocks then, with the cells that it has grown by
        would(made(Boundaries::steps), 11, 4, 0, 20, 36, 0);
        // found where a block was thrown away: it has grown all the same
        MasterHeap x = heap(20, 23, 14, 4);
        mark(x, 0);
        would(x, 14, 1, 1, 0, 23, 0);
        would(x, 2, 3, 0, 20, 23, 0);
        x.make(14, 0);
        same("count(0)", x.count(0), 23);
        blocks(x, "0:15:3 15:5:2 20:3:0");
    }

    @Sentence(promise = {27, 28}, says = "4 ARRANGE: a GAP is a run of CELLS of BLOCKS that are not FIXED, as "
            + "long as can be;")
    static void gapsLieBetweenFixedBlocks() {
        MasterHeap x = heap(20, 20);
        same("an empty heap: free(3)", x.free(3), 1);
        lay(x, 20, 20, 4, 4, 4, 4);
        same("loose ones side by side: free(3)", x.free(3), 1);
        x.drop(1);
        same("free and loose ones: free(3)", x.free(3), 1);
        x.lock(0);
        same("a fixed one at the begin: free(3)", x.free(3), 1);
        x.lock(2);
        same("a fixed one between: free(3)", x.free(3), 2);
        x.lock(3);
        same("two fixed ones side by side, at the end: free(3)", x.free(3), 1);
        MasterHeap y = heap(20, 20, 4, 14);
        lock(y, 0, 1);
        same("all are fixed: free(3)", y.free(3), 0);
        y.unlock(1);
        same("one is not: free(3)", y.free(3), 1);
        MasterHeap z = heap(10, 20, 9);
        z.lock(0);
        same("what it can grow by is none: free(3)", z.free(3), 0);
    }

    @Sentence(promise = {3, 28}, says = "the LOOSE ones that are not FIXED, in their order, are each given to a "
            + "GAP, all those of one together no more than it has;")
    static void aGapTakesWhatItHasCellsFor() {
        // two blocks of 5 cells into a gap of 10, and of 9
        Way ten = x -> {
            lay(x, 25, 25, 9, 1, 4, 4);
            x.lock(1);
            x.drop(0);
        };
        MasterHeap x = made(ten);
        blocks(x, "0:10:0 10:2:2 12:5:3 17:5:4 22:3:0");
        would(x, 10, 4, 0, 12, 25, 0);
        would(x, 12, 4, 0, 12, 25, 0);
        noFit(x, 13);
        x.make(11, 0);
        blocks(x, "0:5:3 5:5:4 10:2:2 12:12:1 24:1:0");
        MasterHeap nine = heap(24, 24, 8, 1, 4, 4);
        nine.lock(1);
        nine.drop(0);
        blocks(nine, "0:9:0 9:2:2 11:5:3 16:5:4 21:3:0");
        noFit(nine, 9);
        // one block of 5 cells into a gap of 5, and of 4
        would(made(Boundaries::gaps), 14, 4, 0, 14, 29, 0);
        noFit(made(Boundaries::gaps), 15);
        MasterHeap four = heap(27, 27, 3, 1, 3, 1, 4, 4);
        lock(four, 1, 3);
        drop(four, 0, 2);
        blocks(four, "0:4:0 4:2:2 6:4:0 10:2:4 12:5:5 17:5:6 22:5:0");
        would(four, 4, 1, 0, 22, 27, 0);
        noFit(four, 5);
    }

    @Sentence(promise = {3, 28}, says = "of all ways by which in any GAP N CELLS at least are left that by which "
            + "fewest are given to another GAP than the one they lie in,")
    static void fewestAreGivenToAnotherGap() {
        // given to the gaps 0 and 1 the two would leave more, but one is enough
        MasterHeap x = made(Boundaries::gaps);
        x.make(9, 0);
        blocks(x, "0:5:5 5:2:2 7:5:0 12:2:4 14:5:6 19:10:1");
        same("count(5)", x.count(5), 2);
        // one cell more, and two must go
        MasterHeap y = made(Boundaries::gaps);
        y.make(10, 0);
        blocks(y, "0:5:5 5:2:2 7:5:6 12:2:4 14:11:1 25:4:0");
        same("count(5)", y.count(5), 2);
        // exactly N cells are left, and one too few
        would(made(Boundaries::gaps), 9, 4, 0, 19, 29, 0);
        would(made(Boundaries::gaps), 10, 4, 0, 14, 29, 0);
    }

    @Sentence(promise = {3, 28}, says = "of several the first (one by one, the least GAP):")
    static void ofSeveralWaysTheFirst() {
        // to the gap 0, not to the gap 1, and the first of the two
        MasterHeap x = made(Boundaries::gaps);
        x.make(9, 0);
        same("handle(4, 1)", x.handle(4, 1), 0);
        same("handle(5, 1)", x.handle(5, 1), 14);
        // where they lie in the least gap the last of them goes
        MasterHeap y = heap(22, 22, 4, 4, 4, 1);
        y.lock(3);
        y.drop(2);
        blocks(y, "0:5:1 5:5:2 10:5:0 15:2:4 17:5:0");
        would(y, 9, 4, 0, 5, 22, 0);
        y.make(9, 0);
        blocks(y, "0:5:1 5:10:3 15:2:4 17:5:2");
    }

    /** Handle 1 lies ahead of handle 0: 0:2:0 2:5:2 7:5:1 12:3:3 15:.. */
    private static void crossed(MasterHeap x, int size) {
        lay(x, size, size, 1, 4);
        x.drop(0);
        x.make(4, 0);
        x.make(2, 0);
        x.lock(2);
    }

    @Sentence(promise = {3}, says = "the LOOSE ones that are not FIXED, in their order, are each given to a GAP,")
    static void theirOrderIsHowTheyLie() {
        MasterHeap x = made(y -> crossed(y, 20));
        blocks(x, "0:2:0 2:5:2 7:5:1 12:3:3 15:5:0");
        x.make(6, 0);
        blocks(x, "0:5:2 5:7:4 12:3:3 15:5:1");
    }

    @Sentence(promise = {3}, says = "in each GAP these lie from its begin on, in their order, behind them a FREE "
            + "BLOCK of what is left;")
    static void inAGapTheyLieFromItsBeginOn() {
        MasterHeap x = made(y -> crossed(y, 23));
        x.make(2, 0);
        fill(x, 0, 10);
        fill(x, 3, 20);
        blocks(x, "0:2:0 2:5:2 7:5:1 12:3:3 15:3:4 18:5:0");
        x.make(6, 0);
        blocks(x, "0:5:2 5:7:5 12:3:3 15:5:1 20:3:4");
        filled(x, 0, 10, 4);
        filled(x, 3, 20, 2);
        // what is left in a gap that is not it lies behind the others too
        MasterHeap y = heap(33, 33, 2, 4, 1, 4, 4);
        y.lock(2);
        y.drop(0);
        blocks(y, "0:3:0 3:5:2 8:2:3 10:5:4 15:5:5 20:13:0");
        would(y, 13, CANNOT);
        y.drop(1);
        would(y, 17, 4, 0, 15, 33, 0);
        y.make(17, 0);
        blocks(y, "0:5:4 5:3:0 8:2:3 10:5:5 15:18:1");
    }

    @Sentence(promise = {28}, says = "that of the first GAP with N CELLS left is it.")
    static void itIsInTheGapWithCellsEnough() {
        // the last gap has them, then the first, then the one between
        would(made(Boundaries::gaps), 9, 4, 0, 19, 29, 0);
        MasterHeap first = heap(22, 22, 4, 4, 4, 1);
        first.lock(3);
        first.drop(2);
        would(first, 9, 4, 0, 5, 22, 0);
        MasterHeap between = heap(24, 24, 4, 1, 4, 4, 1, 4);
        lock(between, 1, 4);
        drop(between, 0, 5);
        blocks(between, "0:5:0 5:2:2 7:5:3 12:5:4 17:2:5 19:5:0");
        would(between, 4, 1, 0, 0, 24, 0);
        would(between, 5, 4, 0, 7, 24, 0);
        between.resize(3, 3);
        blocks(between, "0:5:0 5:2:2 7:5:3 12:4:4 16:1:0 17:2:5 19:5:0");
        would(between, 5, 4, 0, 11, 24, 0);
        would(between, 9, 4, 0, 7, 24, 0);
        noFit(between, 10);
    }

    // ---- squeeze ----

    /** A full heap of two blocks of 10 cells: 0:10:1 10:10:2, costs 2 and 1. */
    private static void pair(MasterHeap x) {
        x.start(20, 20);
        x.make(9, 2);
        x.make(9, 1);
    }

    @Sentence(promise = {3, 28}, says = "5 SQUEEZE: of the HANDLES that CAN BE LESS the one of least WORTH, of "
            + "several the least:")
    static void theOneOfLeastWorthIsSqueezed() {
        Way both = x -> {
            pair(x);
            x.least(0, 6);
            x.least(1, 6);
        };
        would(made(both), 2, 1, 0, 7, 20, 1);
        MasterHeap touched = made(both);
        touched.touch(0);
        would(touched, 2, 1, 0, 17, 20, 2);
        MasterHeap byCost = made(both);
        byCost.policy(1);
        would(byCost, 2, 1, 0, 17, 20, 2);
        MasterHeap bySize = made(both);
        bySize.policy(3);
        would(bySize, 2, 1, 0, 7, 20, 1);
        // the one of less worth can't be less
        MasterHeap other = made(Boundaries::full);
        pair(other);
        other.least(1, 6);
        would(other, 2, 1, 0, 17, 20, 2);
        // as many as there can be, one behind the other
        MasterHeap all = heap(24, 24, 2, 2, 2, 2, 2, 2, 2, 2);
        for (int h = 0; h < 8; h++) {
            all.least(h, 1);
        }
        would(all, 7, 1, 0, 16, 24, 255);
        // one is not enough: both
        would(made(both), 3, 1, 0, 14, 20, 3);
        would(made(both), 5, 1, 0, 14, 20, 3);
        noFit(made(both), 6);
    }

    @Sentence(promise = {3}, says = "SIZE is LEAST, the CELLS behind are FREE;")
    static void whatIsSqueezedHasItsLeast() {
        MasterHeap x = made(FitBoundaries::pair);
        fill(x, 0, 10);
        x.least(0, 6);
        x.touch(1);
        same("make(2, 0)", x.make(2, 0), 2);
        blocks(x, "0:7:1 7:3:3 10:10:2");
        same("handle(0, 2)", x.handle(0, 2), 6);
        same("handle(0, 8)", x.handle(0, 8), 6);
        filled(x, 0, 10, 6);
        same("get(0, 6)", x.get(0, 6), 0);
        zeros(x, 8, 10);
        // more was squeezed off than is used
        MasterHeap y = made(FitBoundaries::pair);
        fill(y, 0, 10);
        y.least(0, 1);
        y.touch(1);
        same("make(3, 0)", y.make(3, 0), 2);
        blocks(y, "0:2:1 2:4:3 6:4:0 10:10:2");
        zeros(y, 7, 10);
        y.resize(0, 2);
        same("what was squeezed off is gone: get(0, 1)", y.get(0, 1), 0);
    }

    @Sentence(promise = {28}, says = "then all again from 1.")
    static void behindASqueezeAllAgain() {
        // enough where it was squeezed; by sliding; where it has grown in vain; by another order
        MasterHeap first = made(FitBoundaries::pair);
        first.least(0, 4);
        would(first, 4, 1, 0, 5, 20, 1);
        noFit(first, 5);
        MasterHeap slide = heap(21, 21, 9, 9);
        slide.least(0, 4);
        would(slide, 5, 2, 0, 15, 21, 1);
        MasterHeap grow = heap(20, 22, 9, 9);
        grow.least(1, 8);
        would(grow, 2, 1, 0, 19, 22, 2);
        MasterHeap arrange = heap(22, 22, 4, 1, 9, 4);
        arrange.lock(1);
        arrange.drop(0);
        arrange.least(3, 3);
        blocks(arrange, "0:5:0 5:2:2 7:10:3 17:5:4");
        would(arrange, 4, 1, 0, 0, 22, 0);
        noFit(arrange, 5);
        arrange.least(2, 4);
        would(arrange, 5, 4, 0, 12, 22, 4);
    }

    // ---- purge ----

    @Sentence(promise = {3, 28}, says = "6 PURGE, if there is none:")
    static void noneIsPurgedWhileOneCanBeLess() {
        MasterHeap x = made(FitBoundaries::pair);
        x.least(1, 8);
        mark(x, 0);
        // handle 0 alone would be enough, but handle 1 can be less
        would(x, 9, 1, 1, 0, 20, 2);
        same("make(9, 0)", x.make(9, 0), 2);
        blocks(x, "0:10:3 10:9:2 19:1:0");
        same("handle(0, 0)", x.handle(0, 0), 2);
        // by what is squeezed there is enough: none is purged
        MasterHeap y = made(FitBoundaries::pair);
        y.least(1, 7);
        mark(y, 0);
        would(y, 1, 1, 0, 18, 20, 2);
        // none can be less
        MasterHeap z = made(FitBoundaries::pair);
        mark(z, 0);
        would(z, 1, 1, 1, 0, 20, 0);
    }

    @Sentence(promise = {3, 28}, says = "of the HANDLES that CAN GO the one of least WORTH, of several the least: "
            + "its BLOCK is FREE, it is EMPTY;")
    static void theOneOfLeastWorthIsPurged() {
        Way both = x -> {
            pair(x);
            mark(x, 0, 1);
        };
        would(made(both), 1, 1, 1, 0, 20, 0);
        MasterHeap touched = made(both);
        touched.touch(0);
        would(touched, 1, 1, 2, 10, 20, 0);
        MasterHeap byCost = made(both);
        byCost.policy(1);
        would(byCost, 1, 1, 2, 10, 20, 0);
        MasterHeap bySize = made(both);
        bySize.policy(3);
        would(bySize, 1, 1, 1, 0, 20, 0);
        MasterHeap locked = made(both);
        locked.lock(0);
        would(locked, 1, 1, 2, 10, 20, 0);
        // WORTH is by the SIZE that it has then: handle 0 was the longer one, and has been squeezed
        MasterHeap then = heap(20, 20, 9, 8);
        then.policy(3);
        then.least(0, 2);
        mark(then, 0, 1);
        would(then, 8, 1, 2, 3, 20, 1);
        MasterHeap x = made(both);
        fill(x, 0, 10);
        x.touch(1);
        same("make(4, 0)", x.make(4, 0), 2);
        blocks(x, "0:5:3 5:5:0 10:10:2");
        zeros(x, 1, 5);
        zeros(x, 6, 10);
        same("handle(0, 0)", x.handle(0, 0), 2);
        same("handle(0, 2)", x.handle(0, 2), 9);
        same("handle(1, 0)", x.handle(1, 0), 1);
    }

    @Sentence(promise = {28}, says = "then all again from 1;")
    static void behindAPurgeAllAgain() {
        MasterHeap x = made(FitBoundaries::pair);
        mark(x, 0, 1);
        would(x, 9, 1, 1, 0, 20, 0);
        would(x, 10, 1, 3, 0, 20, 0);
        would(x, 19, 1, 3, 0, 20, 0);
        noFit(x, 20);
        // all that there can be are squeezed, and all are purged then
        MasterHeap all = heap(24, 24, 2, 2, 2, 2, 2, 2, 2, 2);
        for (int h = 0; h < 8; h++) {
            all.least(h, 1);
            all.mark(h, true);
        }
        would(all, 21, 2, 127, 2, 24, 255);
        would(all, 23, 1, 255, 0, 24, 255);
        noFit(all, 24);
        MasterHeap slide = heap(22, 22, 9, 9);
        mark(slide, 0);
        would(slide, 9, 1, 1, 0, 22, 0);
        would(slide, 10, 2, 1, 10, 22, 0);
        would(slide, 11, 2, 1, 10, 22, 0);
        noFit(slide, 12);
    }

    @Sentence(promise = {3, 14, 15, 28}, says = "is there none of these either, it can't be, and all is as it was.")
    static void inVainAllIsAsItWas() {
        // it would slide, grow, squeeze handle 3 and purge handles 2 and 4 in vain
        Way ahead = x -> {
            lay(x, 40, 50, 4, 4, 9, 9, 2);
            fill(x, 1, 10);
            fill(x, 3, 20);
            x.least(3, 2);
            mark(x, 2, 4);
            x.lock(3);
            x.unlock(3);
            x.drop(0);
        };
        same("all that it could have: greatest(2)", made(ahead).greatest(2), 41);
        still(ahead, "make(42, 0)", x -> x.make(42, 0), CANNOT);
        still(ahead, "make(60, 0)", x -> x.make(60, 0), CANNOT);
        still(ahead, "would(42, 0)", x -> x.would(42, 0), CANNOT);
        still(ahead, "resize(1, 60)", x -> x.resize(1, 60), CANNOT);
        Way purged = x -> {
            lay(x, 20, 20, 9, 8);
            mark(x, 0);
            x.purge(0);
            x.make(10, 0);
            x.least(1, 7);
            x.touch(2);
        };
        still(purged, "remake(0)", x -> x.remake(0), CANNOT);
        still(Boundaries::full, "make(1, 0)", x -> x.make(1, 0), CANNOT);
    }

    @Sentence(promise = {3, 14, 15}, says = "The first N CELLS of that FREE BLOCK are used, the rest is FREE.")
    static void theFirstCellsAreUsed() {
        MasterHeap all = heap(20, 20, 9);
        all.make(9, 0);
        blocks(all, "0:10:1 10:10:2");
        same("count(7)", all.count(7), 2);
        MasterHeap one = heap(20, 20, 9);
        one.make(8, 0);
        blocks(one, "0:10:1 10:9:2 19:1:0");
        same("cell(19)", one.cell(19), 64);
        MasterHeap two = heap(20, 20, 9);
        two.make(7, 0);
        blocks(two, "0:10:1 10:8:2 18:2:0");
        same("cell(19)", two.cell(19), 0);
    }
}
