/**
 * A heap of cells that moves its blocks. The document (DOC.md) says what each call answers.
 *
 * Only where each block lies is kept, with the contents beside it: headers, free blocks and their
 * joining follow from that, so no move can leave them behind.
 */
public final class MasterHeap {
    public static final int NONE = -1;

    private static final int CANNOT = -2;

    private static final int HANDLES = 8;
    private static final int POINTERS = 3;
    /** Handles and pointers in one row: a pointer p is holder HANDLES + p. */
    private static final int HOLDERS = HANDLES + POINTERS;
    private static final int HANDLE_SETS = 1 << HANDLES;

    private static final int LEAST_HEAP = 8;
    private static final int GREATEST_HEAP = 200;
    private static final int GREATEST_SIZE = 60;
    private static final int GREATEST_ASKED = 199;
    private static final int GREATEST_COST = 9;
    private static final int GREATEST_LOCKS = 7;
    private static final int GREATEST_POLICY = 4;
    private static final int UNDOABLE = 12;

    /** A header is this many times the length, and the owner. */
    private static final int HEADER_UNIT = 64;
    private static final int FREE_OWNER = 0;
    private static final int LOOSE_OWNER = 1;
    private static final int ISLAND_OWNER = 33;

    private static final int UNUSED_KIND = 0;
    private static final int FULL_KIND = 1;
    private static final int EMPTY_KIND = 2;

    /** More cells than any heap has: who slides for so many slides to the end. */
    private static final int NEVER_ENOUGH = GREATEST_HEAP + 1;
    /** No heap has as many pairs of a free and a loose block. */
    private static final int GREATEST_SLIDES = 1000;

    /** Runs are kept apart by blocks, so there is at most one more of them. */
    private static final int GREATEST_RUNS = HOLDERS + 1;
    private static final int NEW_BLOCKS = 3;
    private static final int GREATEST_ITEMS = HANDLES + NEW_BLOCKS;
    /** Above the cells of any run, so that a run's number and the cells used in it are one number. */
    private static final int RUN_UNIT = 256;
    private static final int NO_WAY = RUN_UNIT * RUN_UNIT;

    private final Heap now = new Heap();
    private final Heap trial = new Heap();
    private final Past past = new Past();
    private final Runs runs = new Runs();
    private final Packing packing = new Packing();
    private final Fit fit = new Fit();
    private final Clearing clearing = new Clearing();

    public MasterHeap() {
        now.begin(64, 64);
    }

    public boolean start(int size, int most) {
        if (size < LEAST_HEAP || size > most || most > GREATEST_HEAP) {
            return false;
        }
        now.begin(size, most);
        past.forget();
        return true;
    }

    // ---- the acts ----

    public int make(int size, int cost) {
        int handle = now.firstUnusedHandle();
        if (!isSize(size) || cost < 0 || cost > GREATEST_COST || handle == NONE) {
            return NONE;
        }
        past.save(now);
        int at = fit.seek(now, size + 1, NONE);
        if (at == NONE) {
            past.putBack(now);
            return CANNOT;
        }
        now.layNew(handle, at, size);
        now.describe(handle, cost);
        finish(handle);
        return handle;
    }

    public int put(int handle, int k, int v) {
        if (!now.isFull(handle) || !now.isContent(handle, k)) {
            return 0;
        }
        int old = tell(handle, k, v);
        finish(handle);
        return old;
    }

    public int set(int pointer, int k, int v) {
        if (!now.isIsland(pointer) || !now.isContent(HANDLES + pointer, k)) {
            return 0;
        }
        int old = tell(HANDLES + pointer, k, v);
        finish(NONE);
        return old;
    }

    public boolean touch(int handle) {
        if (!now.isUsed(handle)) {
            return false;
        }
        past.save(now);
        finish(handle);
        return true;
    }

    public int lock(int handle) {
        if (!now.isFull(handle) || now.locks[handle] >= GREATEST_LOCKS) {
            return NONE;
        }
        past.save(now);
        now.locks[handle]++;
        finish(handle);
        return now.locks[handle];
    }

    public int unlock(int handle) {
        if (!now.isFull(handle) || now.locks[handle] < 1) {
            return NONE;
        }
        past.save(now);
        now.locks[handle]--;
        finish(NONE);
        return now.locks[handle];
    }

    public int high(int handle) {
        if (!now.isMovable(handle)) {
            return NONE;
        }
        past.save(now);
        int at = clearing.highest(now, handle, 0, 0);
        if (at != NONE) {
            now.places[handle] = at;
        }
        now.locks[handle] = 1;
        finish(handle);
        return now.places[handle];
    }

    public boolean mark(int handle, boolean is) {
        if (!now.isUsed(handle) || now.isPurgeable(handle) == is) {
            return false;
        }
        past.save(now);
        now.purgeable ^= 1 << handle;
        finish(NONE);
        return true;
    }

    public boolean drop(int handle) {
        if (!now.isUsed(handle) || now.locks[handle] > 0) {
            return false;
        }
        past.save(now);
        now.used &= ~(1 << handle);
        now.places[handle] = NONE;
        finish(NONE);
        return true;
    }

    public int least(int handle, int n) {
        if (!now.isFull(handle) || n < 1 || n > now.sizes[handle] || n == now.leasts[handle]) {
            return NONE;
        }
        past.save(now);
        int old = now.leasts[handle];
        now.leasts[handle] = n;
        finish(NONE);
        return old;
    }

    public boolean purge(int handle) {
        if (!now.isMovable(handle) || !now.isPurgeable(handle)) {
            return false;
        }
        past.save(now);
        now.places[handle] = NONE;
        finish(NONE);
        return true;
    }

    public int remake(int handle) {
        if (now.kindOf(handle) != EMPTY_KIND) {
            return NONE;
        }
        past.save(now);
        int at = fit.seek(now, now.sizes[handle] + 1, NONE);
        if (at == NONE) {
            past.putBack(now);
            return CANNOT;
        }
        now.layNew(handle, at, now.sizes[handle]);
        now.bill += now.costs[handle];
        finish(handle);
        return at;
    }

    public int resize(int handle, int size) {
        if (!now.isFull(handle) || !isSize(size) || size == now.sizes[handle]) {
            return NONE;
        }
        past.save(now);
        int at = placeToResize(handle, size);
        if (at == NONE) {
            past.putBack(now);
            return CANNOT;
        }
        now.places[handle] = at;
        now.clearContents(handle, now.sizes[handle], size);
        now.sizes[handle] = size;
        now.leasts[handle] = Math.min(now.leasts[handle], size);
        finish(handle);
        return at;
    }

    public int fix(int size) {
        int pointer = now.firstUnusedPointer();
        if (!isSize(size) || pointer == NONE) {
            return NONE;
        }
        past.save(now);
        int at = clearing.clearFirst(now, size + 1);
        if (at == NONE) {
            at = now.grow(size + 1);
        }
        if (at == NONE) {
            past.putBack(now);
            return CANNOT;
        }
        now.layNew(HANDLES + pointer, at, size);
        finish(NONE);
        return pointer;
    }

    public boolean unfix(int pointer) {
        if (!now.isIsland(pointer)) {
            return false;
        }
        past.save(now);
        now.places[HANDLES + pointer] = NONE;
        finish(NONE);
        return true;
    }

    public int reserve(int size) {
        if (!isSize(size)) {
            return NONE;
        }
        past.save(now);
        int at = clearing.clearFirst(now, size + 1);
        if (at == NONE) {
            past.putBack(now);
            return CANNOT;
        }
        finish(NONE);
        return at;
    }

    public int compact() {
        past.save(now);
        now.slide(NEVER_ENOUGH);
        finish(NONE);
        return past.movedSince(now);
    }

    public int policy(int n) {
        if (n < 0 || n > GREATEST_POLICY || n == now.policy) {
            return NONE;
        }
        past.save(now);
        int old = now.policy;
        now.policy = n;
        finish(NONE);
        return old;
    }

    public int undo() {
        return past.takeBack(now);
    }

    // ---- what is asked of the heap as it is ----

    public int handle(int handle, int what) {
        if (what == 0 && isHandle(handle)) {
            return now.kindOf(handle);
        }
        if (!now.isUsed(handle)) {
            return NONE;
        }
        switch (what) {
            case 1: return now.places[handle];
            case 2: return now.sizes[handle];
            case 3: return now.locks[handle];
            case 4: return now.isPurgeable(handle) ? 1 : 0;
            case 5: return now.costs[handle];
            case 6: return now.touches[handle];
            case 7: return now.worthOf(handle);
            case 8: return now.leasts[handle];
            default: return NONE;
        }
    }

    public int get(int handle, int k) {
        if (!now.isFull(handle)) {
            return 0;
        }
        return now.contentOf(handle, k);
    }

    public int pointer(int pointer, int what) {
        if (!now.isIsland(pointer)) {
            return NONE;
        }
        switch (what) {
            case 0: return now.places[HANDLES + pointer];
            case 1: return now.sizes[HANDLES + pointer];
            default: return NONE;
        }
    }

    public int cell(int k) {
        return now.cellAt(k);
    }

    public int block(int k, int what) {
        int at = now.beginOfBlock(k);
        if (at == NONE) {
            return NONE;
        }
        switch (what) {
            case 0: return at;
            case 1: return now.endAt(at, now.size) - at;
            case 2: return ownerOf(now.holderAt(at));
            default: return NONE;
        }
    }

    public int free(int what) {
        if (what == 3) {
            runs.read(now, now.movable(), now.size);
            return runs.count;
        }
        runs.read(now, 0, now.size);
        switch (what) {
            case 0: return runs.cells();
            case 1: return runs.longest();
            case 2: return runs.count;
            default: return NONE;
        }
    }

    public int after(int k) {
        if (!past.acted) {
            return NONE;
        }
        Heap ahead = past.aheadOfLast();
        int handle = ahead.handleWithContent(k);
        if (handle == NONE) {
            return NONE;
        }
        int content = k - ahead.places[handle] - 1;
        if (!now.isFull(handle) || !now.isContent(handle, content)) {
            return CANNOT;
        }
        return now.places[handle] + 1 + content;
    }

    public int order(int k) {
        int goers = now.goers();
        for (int rank = 0; rank <= k && rank < HANDLES; rank++) {
            int next = now.leastWorthy(goers);
            if (next == NONE || rank == k) {
                return next;
            }
            goers &= ~(1 << next);
        }
        return NONE;
    }

    public int torn(int k, int v) {
        if (!now.isCell(k)) {
            return CANNOT;
        }
        boolean behindFree = false;
        int at = 0;
        while (at < now.size) {
            int header = at == k ? v : now.cellAt(at);
            if (now.isTorn(at, header, behindFree)) {
                return at;
            }
            behindFree = header % HEADER_UNIT == FREE_OWNER;
            at += Math.max(1, header / HEADER_UNIT);
        }
        return NONE;
    }

    public int count(int what) {
        switch (what) {
            case 0: return now.size;
            case 1: return now.most;
            case 2: return now.clock;
            case 3: return now.policy;
            case 4: return now.bill;
            case 5: return past.movedSince(now);
            case 6: return past.count;
            case 7: return now.blocks();
            default: return NONE;
        }
    }

    // ---- what is asked of what might be ----

    public int would(int size, int what) {
        if (!isAsked(size) || what < 0 || what > 4) {
            return NONE;
        }
        trial.copyFrom(now);
        int at = fit.seek(trial, size + 1, NONE);
        if (at == NONE) {
            return CANNOT;
        }
        switch (what) {
            case 0: return fit.step;
            case 1: return fit.purged;
            case 2: return at;
            case 3: return trial.size;
            default: return fit.squeezed;
        }
    }

    /**
     * Squeezing and throwing away go on in one order whatever is sought, and each leaves no less
     * room: so the greatest is found in the heap where all of them are done.
     */
    public int greatest(int what) {
        if (what < 0 || what > 2) {
            return NONE;
        }
        trial.copyFrom(now);
        if (what >= 1) {
            trial.squeezeAll();
        }
        int staying = what == 2 ? now.movable() & ~now.goers() : now.movable();
        runs.read(now, now.movable(), now.most);
        int found = 0;
        for (int bit = HANDLE_SETS; bit > 0; bit /= 2) {
            if (isAsked(found + bit) && packing.holds(runs, trial, staying, found + bit + 1)) {
                found += bit;
            }
        }
        return found;
    }

    public int fewest(int size, int what) {
        if (!isAsked(size) || what < 0 || what > 1) {
            return NONE;
        }
        int movable = now.movable();
        int goers = now.goers();
        runs.read(now, movable, now.most);
        // Without all of them there is the most room: the sets need not be gone through in vain.
        if (!packing.holds(runs, now, movable & ~goers, size + 1)) {
            return CANNOT;
        }
        for (int many = 0; many <= HANDLES; many++) {
            for (int set = 0; set < HANDLE_SETS; set++) {
                if ((set & ~goers) == 0 && Integer.bitCount(set) == many
                        && packing.holds(runs, now, movable & ~set, size + 1)) {
                    return what == 0 ? many : set;
                }
            }
        }
        return CANNOT;
    }

    public boolean three(int a, int b, int c) {
        if (!isAskedOrNone(a) || !isAskedOrNone(b) || !isAskedOrNone(c)) {
            return false;
        }
        runs.read(now, now.movable(), now.most);
        packing.fillWith(now, now.movable());
        addBlockOf(a);
        addBlockOf(b);
        addBlockOf(c);
        return packing.goesInto(runs);
    }

    public int cheapest(int size, int what) {
        if (!isAsked(size) || what < 0 || what > 1) {
            return NONE;
        }
        int movable = now.movable();
        // What is taken out can go back where it was: if all of them are no help, no set is.
        if (!findPlaces(movable, size + 1)) {
            return CANNOT;
        }
        int best = movable;
        for (int set = 0; set < movable; set++) {
            if ((set & ~movable) == 0 && now.cellsOf(set) < now.cellsOf(best)
                    && findPlaces(set, size + 1)) {
                best = set;
            }
        }
        return what == 0 ? now.cellsOf(best) : best;
    }

    // ---- helpers of the calls ----

    /** The last thing of every act; NONE, if it touches no handle. */
    private void finish(int handle) {
        now.clock++;
        if (isHandle(handle)) {
            now.touches[handle] = now.clock;
        }
        past.keep();
    }

    private int tell(int holder, int k, int v) {
        past.save(now);
        int old = now.contentOf(holder, k);
        now.setContent(holder, k, v);
        return old;
    }

    private int placeToResize(int handle, int size) {
        if (size - now.sizes[handle] <= now.freeBehind(handle)) {
            return now.places[handle];
        }
        if (!now.isMovable(handle)) {
            return NONE;
        }
        return fit.seek(now, size + 1, handle);
    }

    /** Whether the blocks of these handles, taken out, and a run of n cells find a place each. */
    private boolean findPlaces(int handles, int n) {
        runs.read(now, handles, now.most);
        return packing.holds(runs, now, handles, n);
    }

    private void addBlockOf(int size) {
        if (size > 0) {
            packing.add(size + 1);
        }
    }

    private static boolean isHandle(int handle) {
        return handle >= 0 && handle < HANDLES;
    }

    private static boolean isSize(int size) {
        return size >= 1 && size <= GREATEST_SIZE;
    }

    private static boolean isAsked(int size) {
        return size >= 1 && size <= GREATEST_ASKED;
    }

    private static boolean isAskedOrNone(int size) {
        return size == 0 || isAsked(size);
    }

    private static boolean isIn(int set, int handle) {
        return handle >= 0 && handle < HANDLES && (set >> handle & 1) == 1;
    }

    private static int ownerOf(int holder) {
        if (holder == NONE) {
            return FREE_OWNER;
        }
        return holder < HANDLES ? LOOSE_OWNER + holder : ISLAND_OWNER + holder - HANDLES;
    }

    /** NONE, if no holder is that owner: it is free, or none that there is. */
    private static int holderOf(int owner) {
        if (owner >= LOOSE_OWNER && owner < LOOSE_OWNER + HANDLES) {
            return owner - LOOSE_OWNER;
        }
        if (owner >= ISLAND_OWNER && owner < ISLAND_OWNER + POINTERS) {
            return HANDLES + owner - ISLAND_OWNER;
        }
        return NONE;
    }

    /** All that an act can change, so that one copy of it is enough to undo the act. */
    private static final class Heap {
        /** Where a holder's block begins; NONE, if it has no block. */
        final int[] places = new int[HOLDERS];
        final int[] sizes = new int[HOLDERS];
        final int[] contents = new int[HOLDERS * GREATEST_SIZE];
        final int[] locks = new int[HANDLES];
        final int[] leasts = new int[HANDLES];
        final int[] costs = new int[HANDLES];
        final int[] touches = new int[HANDLES];
        int used;
        int purgeable;
        int size;
        int most;
        int clock;
        int policy;
        int bill;

        void begin(int newSize, int newMost) {
            for (int holder = 0; holder < HOLDERS; holder++) {
                places[holder] = NONE;
            }
            for (int handle = 0; handle < HANDLES; handle++) {
                locks[handle] = 0;
            }
            used = 0;
            purgeable = 0;
            size = newSize;
            most = newMost;
            clock = 0;
            policy = 0;
            bill = 0;
        }

        void copyFrom(Heap other) {
            System.arraycopy(other.places, 0, places, 0, HOLDERS);
            System.arraycopy(other.sizes, 0, sizes, 0, HOLDERS);
            System.arraycopy(other.contents, 0, contents, 0, HOLDERS * GREATEST_SIZE);
            System.arraycopy(other.locks, 0, locks, 0, HANDLES);
            System.arraycopy(other.leasts, 0, leasts, 0, HANDLES);
            System.arraycopy(other.costs, 0, costs, 0, HANDLES);
            System.arraycopy(other.touches, 0, touches, 0, HANDLES);
            used = other.used;
            purgeable = other.purgeable;
            size = other.size;
            most = other.most;
            clock = other.clock;
            policy = other.policy;
            bill = other.bill;
        }

        // -- handles and pointers --

        boolean isUsed(int handle) {
            return isIn(used, handle);
        }

        boolean isFull(int handle) {
            return handle >= 0 && handle < HANDLES && places[handle] != NONE;
        }

        boolean isMovable(int handle) {
            return handle >= 0 && handle < HANDLES && places[handle] != NONE && locks[handle] == 0;
        }

        boolean isPurgeable(int handle) {
            return isIn(purgeable, handle);
        }

        boolean isIsland(int pointer) {
            return pointer >= 0 && pointer < POINTERS && places[HANDLES + pointer] != NONE;
        }

        int kindOf(int handle) {
            if (!isUsed(handle)) {
                return UNUSED_KIND;
            }
            return isFull(handle) ? FULL_KIND : EMPTY_KIND;
        }

        int firstUnusedHandle() {
            for (int handle = 0; handle < HANDLES; handle++) {
                if (!isUsed(handle)) {
                    return handle;
                }
            }
            return NONE;
        }

        int firstUnusedPointer() {
            for (int pointer = 0; pointer < POINTERS; pointer++) {
                if (!isIsland(pointer)) {
                    return pointer;
                }
            }
            return NONE;
        }

        int movable() {
            int set = 0;
            for (int handle = 0; handle < HANDLES; handle++) {
                if (isMovable(handle)) {
                    set |= 1 << handle;
                }
            }
            return set;
        }

        int goers() {
            return movable() & purgeable;
        }

        int squeezable() {
            int set = 0;
            for (int handle = 0; handle < HANDLES; handle++) {
                if (isMovable(handle) && leasts[handle] < sizes[handle]) {
                    set |= 1 << handle;
                }
            }
            return set;
        }

        int worthOf(int handle) {
            if (!isHandle(handle)) {
                return 0;
            }
            switch (policy) {
                case 0: return touches[handle];
                case 1: return costs[handle];
                case 2: return 100 * costs[handle] / Math.max(1, sizes[handle]);
                case 3: return 1000 - sizes[handle];
                default: return touches[handle] + 4 * costs[handle];
            }
        }

        int leastWorthy(int set) {
            int found = NONE;
            for (int handle = 0; handle < HANDLES; handle++) {
                if (isIn(set, handle) && (found == NONE || worthOf(handle) < worthOf(found))) {
                    found = handle;
                }
            }
            return found;
        }

        int cellsOf(int set) {
            int cells = 0;
            for (int handle = 0; handle < HANDLES; handle++) {
                if (isIn(set, handle)) {
                    cells += sizes[handle] + 1;
                }
            }
            return cells;
        }

        void describe(int handle, int cost) {
            if (!isHandle(handle)) {
                return;
            }
            used |= 1 << handle;
            purgeable &= ~(1 << handle);
            locks[handle] = 0;
            costs[handle] = cost;
            leasts[handle] = sizes[handle];
        }

        void squeezeAll() {
            for (int handle = 0; handle < HANDLES; handle++) {
                if (isMovable(handle)) {
                    sizes[handle] = leasts[handle];
                }
            }
        }

        // -- contents --

        boolean isContent(int holder, int k) {
            return holder >= 0 && holder < HOLDERS && k >= 0 && k < Math.min(sizes[holder], GREATEST_SIZE);
        }

        int contentOf(int holder, int k) {
            return isContent(holder, k) ? contents[holder * GREATEST_SIZE + k] : 0;
        }

        void setContent(int holder, int k, int v) {
            if (isContent(holder, k)) {
                contents[holder * GREATEST_SIZE + k] = v;
            }
        }

        void clearContents(int holder, int from, int to) {
            if (holder < 0 || holder >= HOLDERS || from < 0) {
                return;
            }
            for (int k = from; k < to && k < GREATEST_SIZE; k++) {
                contents[holder * GREATEST_SIZE + k] = 0;
            }
        }

        void layNew(int holder, int at, int newSize) {
            if (holder < 0 || holder >= HOLDERS) {
                return;
            }
            places[holder] = at;
            sizes[holder] = newSize;
            clearContents(holder, 0, newSize);
        }

        // -- cells and blocks --

        boolean isCell(int k) {
            return k >= 0 && k < size;
        }

        /** NONE, if a free block begins there. */
        int holderAt(int at) {
            for (int holder = 0; holder < HOLDERS; holder++) {
                if (places[holder] == at) {
                    return holder;
                }
            }
            return NONE;
        }

        /** Where the block that begins at a cell ends, in a heap of so many cells. */
        int endAt(int at, int extent) {
            int end = extent;
            for (int holder = 0; holder < HOLDERS; holder++) {
                if (places[holder] == at) {
                    return at + sizes[holder] + 1;
                }
                if (places[holder] > at && places[holder] < end) {
                    end = places[holder];
                }
            }
            return end;
        }

        int cellAt(int k) {
            if (!isCell(k)) {
                return 0;
            }
            boolean begins = k == 0;
            for (int holder = 0; holder < HOLDERS; holder++) {
                int offset = places[holder] == NONE ? NONE : k - places[holder];
                if (offset == 0) {
                    return HEADER_UNIT * (sizes[holder] + 1) + ownerOf(holder);
                }
                if (offset > 0 && offset <= sizes[holder]) {
                    return contentOf(holder, offset - 1);
                }
                if (offset == sizes[holder] + 1) {
                    begins = true;
                }
            }
            return begins ? HEADER_UNIT * (endAt(k, size) - k) + FREE_OWNER : 0;
        }

        int blocks() {
            int blocks = 0;
            for (int at = 0; at < size; at = Math.max(at + 1, endAt(at, size))) {
                blocks++;
            }
            return blocks;
        }

        int beginOfBlock(int k) {
            int block = 0;
            for (int at = 0; at < size; at = Math.max(at + 1, endAt(at, size))) {
                if (block == k) {
                    return at;
                }
                block++;
            }
            return NONE;
        }

        int handleWithContent(int k) {
            for (int handle = 0; handle < HANDLES; handle++) {
                if (isFull(handle) && k > places[handle] && k <= places[handle] + sizes[handle]) {
                    return handle;
                }
            }
            return NONE;
        }

        int freeBehind(int handle) {
            if (!isFull(handle)) {
                return 0;
            }
            int end = places[handle] + sizes[handle] + 1;
            return end < size && holderAt(end) == NONE ? endAt(end, size) - end : 0;
        }

        boolean isTorn(int at, int header, boolean behindFree) {
            int length = header / HEADER_UNIT;
            if (header < HEADER_UNIT || at + length > size) {
                return true;
            }
            int owner = header % HEADER_UNIT;
            if (owner == FREE_OWNER) {
                return behindFree;
            }
            int holder = holderOf(owner);
            return holder == NONE || places[holder] != at || sizes[holder] + 1 != length;
        }

        // -- the first three steps of a fit; each answers where the free block begins, or NONE --

        int firstFree(int n) {
            for (int at = 0; at < size; at = Math.max(at + 1, endAt(at, size))) {
                if (holderAt(at) == NONE && endAt(at, size) - at >= n) {
                    return at;
                }
            }
            return NONE;
        }

        int slide(int n) {
            for (int slides = 0; slides < GREATEST_SLIDES; slides++) {
                int at = firstFreeAheadOfMovable();
                if (at == NONE) {
                    return NONE;
                }
                int handle = holderAt(endAt(at, size));
                if (!isMovable(handle)) {
                    return NONE;
                }
                places[handle] = at;
                int freed = endAt(at, size);
                if (endAt(freed, size) - freed >= n) {
                    return freed;
                }
            }
            return NONE;
        }

        private int firstFreeAheadOfMovable() {
            for (int at = 0; at < size; at = Math.max(at + 1, endAt(at, size))) {
                if (holderAt(at) == NONE && isMovable(holderAt(endAt(at, size)))) {
                    return at;
                }
            }
            return NONE;
        }

        int grow(int n) {
            int begin = 0;
            for (int holder = 0; holder < HOLDERS; holder++) {
                if (places[holder] != NONE) {
                    begin = Math.max(begin, places[holder] + sizes[holder] + 1);
                }
            }
            size = Math.max(size, Math.min(most, begin + n));
            return begin + n <= most ? begin : NONE;
        }
    }

    /** The heaps ahead of the last acts, and a slot more for the act that may yet fail. */
    private static final class Past {
        final Heap[] kept = new Heap[UNDOABLE + 1];
        int first;
        int count;
        /** Whether the last thing done was an act: neither a start nor an undo. */
        boolean acted;

        Past() {
            for (int slot = 0; slot < kept.length; slot++) {
                kept[slot] = new Heap();
            }
        }

        void forget() {
            count = 0;
            acted = false;
        }

        private Heap slot(int k) {
            return kept[Math.floorMod(first + k, UNDOABLE + 1)];
        }

        void save(Heap now) {
            slot(count).copyFrom(now);
        }

        void putBack(Heap now) {
            now.copyFrom(slot(count));
        }

        void keep() {
            if (count < UNDOABLE) {
                count++;
            } else {
                first = (first + 1) % (UNDOABLE + 1);
            }
            acted = true;
        }

        int takeBack(Heap now) {
            if (count < 1) {
                return NONE;
            }
            count--;
            acted = false;
            putBack(now);
            return count;
        }

        /** Means nothing unless the last thing done was an act. */
        Heap aheadOfLast() {
            return slot(count - 1);
        }

        int movedSince(Heap now) {
            if (!acted) {
                return 0;
            }
            Heap ahead = aheadOfLast();
            int moved = 0;
            for (int handle = 0; handle < HANDLES; handle++) {
                if (ahead.isFull(handle) && now.isFull(handle)
                        && ahead.places[handle] != now.places[handle]) {
                    moved++;
                }
            }
            return moved;
        }
    }

    /** Runs of cells, as long as can be, of blocks that are free or of some of the handles. */
    private static final class Runs {
        final int[] begins = new int[GREATEST_RUNS];
        final int[] lengths = new int[GREATEST_RUNS];
        int count;

        void read(Heap heap, int handles, int extent) {
            count = 0;
            boolean goesOn = false;
            int at = 0;
            while (at < extent) {
                int end = Math.max(at + 1, heap.endAt(at, extent));
                int holder = heap.holderAt(at);
                boolean open = holder == NONE || isIn(handles, holder);
                if (open && goesOn) {
                    lengthenLast(end - at);
                } else if (open) {
                    addRun(at, end - at);
                }
                goesOn = open;
                at = end;
            }
        }

        private void addRun(int begin, int length) {
            if (count < GREATEST_RUNS) {
                begins[count] = begin;
                lengths[count] = length;
                count++;
            }
        }

        private void lengthenLast(int more) {
            if (count > 0) {
                lengths[count - 1] += more;
            }
        }

        int cells() {
            int cells = 0;
            for (int run = 0; run < count; run++) {
                cells += lengths[run];
            }
            return cells;
        }

        int longest() {
            int longest = 0;
            for (int run = 0; run < count; run++) {
                longest = Math.max(longest, lengths[run]);
            }
            return longest;
        }

        int runWith(int k) {
            for (int run = 0; run < count; run++) {
                if (k >= begins[run] && k < begins[run] + lengths[run]) {
                    return run;
                }
            }
            return NONE;
        }

        /** How far the runs are used once an item more lies in the first of them that takes it. */
        int usedWith(int used, int item) {
            if (used < 0) {
                return NO_WAY;
            }
            int current = used / RUN_UNIT;
            if (current < count && used % RUN_UNIT + item <= lengths[current]) {
                return used + item;
            }
            for (int run = current + 1; run < count; run++) {
                if (item <= lengths[run]) {
                    return run * RUN_UNIT + item;
                }
            }
            return NO_WAY;
        }
    }

    /**
     * Whether some lengths find a place each in runs, in any order. For every set of them the way
     * is kept that uses the fewest runs, and of the last of these the fewest cells: whatever can
     * go on from another way can go on from that one too.
     */
    private static final class Packing {
        final int[] items = new int[GREATEST_ITEMS];
        final int[] used = new int[1 << GREATEST_ITEMS];
        int count;
        int cells;
        int longest;

        void fillWith(Heap heap, int handles) {
            count = 0;
            cells = 0;
            longest = 0;
            for (int handle = 0; handle < HANDLES; handle++) {
                if (isIn(handles, handle)) {
                    add(heap.sizes[handle] + 1);
                }
            }
        }

        void add(int length) {
            if (count < GREATEST_ITEMS) {
                items[count] = length;
                count++;
                cells += length;
                longest = length > longest ? length : longest;
            }
        }

        boolean holds(Runs runs, Heap heap, int handles, int n) {
            fillWith(heap, handles);
            add(n);
            return goesInto(runs);
        }

        boolean goesInto(Runs runs) {
            // Most of what can't be is refused here, without going through the sets.
            if (cells > runs.cells() || longest > runs.longest()) {
                return false;
            }
            int all = (1 << count) - 1;
            for (int set = 1; set <= all && set < used.length; set++) {
                used[set] = NO_WAY;
            }
            used[0] = 0;
            for (int set = 0; set < all && set < used.length; set++) {
                for (int item = 0; item < count && used[set] < NO_WAY; item++) {
                    int with = set | 1 << item;
                    if (with != set && with < used.length) {
                        used[with] = Math.min(used[with], runs.usedWith(used[set], items[item]));
                    }
                }
            }
            return all >= 0 && all < used.length && used[all] < NO_WAY;
        }
    }

    /** The fourth step of a fit. */
    private static final class Arrangement {
        final Runs gaps = new Runs();
        final Packing packing = new Packing();
        /** The handles that can be moved, as they lie. */
        final int[] handles = new int[HANDLES];
        final int[] lengths = new int[HANDLES];
        final int[] homes = new int[HANDLES];
        final int[] given = new int[HANDLES];
        final int[] left = new int[GREATEST_RUNS];
        int count;

        int seek(Heap heap, int n) {
            int movable = heap.movable();
            gaps.read(heap, movable, heap.size);
            packing.fillWith(heap, movable);
            packing.add(n);
            if (!packing.goesInto(gaps)) {
                return NONE;
            }
            list(heap);
            for (int moves = 0; moves <= count; moves++) {
                System.arraycopy(gaps.lengths, 0, left, 0, GREATEST_RUNS);
                if (give(this, 0, moves, n)) {
                    return lay(heap, n);
                }
            }
            return NONE;
        }

        private void list(Heap heap) {
            count = 0;
            for (int at = 0; at < heap.size; at = Math.max(at + 1, heap.endAt(at, heap.size))) {
                int handle = heap.holderAt(at);
                if (heap.isMovable(handle) && count < HANDLES) {
                    handles[count] = handle;
                    lengths[count] = heap.sizes[handle] + 1;
                    homes[count] = gaps.runWith(at);
                    count++;
                }
            }
        }

        /** Gives the blocks from the k-th on to gaps, at most so many of them to another gap. */
        private static boolean give(Arrangement to, int k, int moves, int n) {
            // What is left only becomes less: without room for n cells no way can go on from here.
            if (!to.hasGapWith(n)) {
                return false;
            }
            if (k < 0 || k >= to.count) {
                return true;
            }
            for (int gap = 0; gap < to.gaps.count; gap++) {
                int movesThen = gap == to.homes[k] ? moves : moves - 1;
                if (movesThen >= 0 && to.left[gap] >= to.lengths[k]) {
                    to.left[gap] -= to.lengths[k];
                    to.given[k] = gap;
                    if (give(to, k + 1, movesThen, n)) {
                        return true;
                    }
                    to.left[gap] += to.lengths[k];
                }
            }
            return false;
        }

        private boolean hasGapWith(int n) {
            for (int gap = 0; gap < gaps.count; gap++) {
                if (left[gap] >= n) {
                    return true;
                }
            }
            return false;
        }

        private int lay(Heap heap, int n) {
            int found = NONE;
            for (int gap = 0; gap < gaps.count; gap++) {
                int at = gaps.begins[gap];
                for (int k = 0; k < count; k++) {
                    if (given[k] == gap) {
                        heap.places[handles[k]] = at;
                        at += lengths[k];
                    }
                }
                if (found == NONE && left[gap] >= n) {
                    found = at;
                }
            }
            return found;
        }
    }

    /** A fit by its six steps, and how it was found. */
    private static final class Fit {
        final Arrangement arrangement = new Arrangement();
        int step;
        int squeezed;
        int purged;

        /** Where the free block begins; NONE, and the heap is to be put back: there is no fit. */
        int seek(Heap heap, int n, int spared) {
            int others = isHandle(spared) ? ~(1 << spared) : ~0;
            squeezed = 0;
            purged = 0;
            for (int tries = 0; tries <= 2 * HANDLES; tries++) {
                int at = seekByMoving(heap, n);
                if (at != NONE) {
                    return at;
                }
                if (!squeezeOne(heap, others) && !purgeOne(heap, others)) {
                    return NONE;
                }
            }
            return NONE;
        }

        private int seekByMoving(Heap heap, int n) {
            step = 1;
            int at = heap.firstFree(n);
            if (at == NONE) {
                step = 2;
                at = heap.slide(n);
            }
            if (at == NONE) {
                step = 3;
                at = heap.grow(n);
            }
            if (at == NONE) {
                step = 4;
                at = arrangement.seek(heap, n);
            }
            return at;
        }

        private boolean squeezeOne(Heap heap, int others) {
            int handle = heap.leastWorthy(heap.squeezable() & others);
            if (handle == NONE) {
                return false;
            }
            heap.sizes[handle] = heap.leasts[handle];
            squeezed |= 1 << handle;
            return true;
        }

        private boolean purgeOne(Heap heap, int others) {
            int handle = heap.leastWorthy(heap.goers() & others);
            if (handle == NONE) {
                return false;
            }
            heap.places[handle] = NONE;
            purged |= 1 << handle;
            return true;
        }
    }

    /** Blocks that go high: out of the way of a place that is to be cleared, or one alone. */
    private static final class Clearing {
        final Runs runs = new Runs();
        final int[] oldPlaces = new int[HOLDERS];

        /** The first place that can be cleared for so many cells, cleared; NONE: there is none. */
        int clearFirst(Heap heap, int n) {
            System.arraycopy(heap.places, 0, oldPlaces, 0, HOLDERS);
            for (int at = 0; at + n <= heap.size; at = Math.max(at + 1, heap.endAt(at, heap.size))) {
                if (isOpen(heap, at, n)) {
                    if (clear(heap, at, n)) {
                        return at;
                    }
                    System.arraycopy(oldPlaces, 0, heap.places, 0, HOLDERS);
                }
            }
            return NONE;
        }

        private boolean isOpen(Heap heap, int from, int n) {
            for (int at = from; at < from + n; at = Math.max(at + 1, heap.endAt(at, heap.size))) {
                int holder = heap.holderAt(at);
                if (holder != NONE && !heap.isMovable(holder)) {
                    return false;
                }
            }
            return true;
        }

        private boolean clear(Heap heap, int from, int n) {
            for (int turn = 0; turn < HANDLES; turn++) {
                int handle = firstWithin(heap, from, n);
                if (handle == NONE) {
                    return true;
                }
                int at = highest(heap, handle, from, n);
                if (at == NONE) {
                    return false;
                }
                heap.places[handle] = at;
            }
            return firstWithin(heap, from, n) == NONE;
        }

        private int firstWithin(Heap heap, int from, int n) {
            int first = NONE;
            for (int handle = 0; handle < HANDLES; handle++) {
                if (heap.isFull(handle) && heap.places[handle] >= from && heap.places[handle] < from + n
                        && (first == NONE || heap.places[handle] < heap.places[first])) {
                    first = handle;
                }
            }
            return first;
        }

        /** Where a block lies highest without n cells; its own cells are as if they were free. */
        int highest(Heap heap, int handle, int from, int n) {
            if (!heap.isFull(handle)) {
                return NONE;
            }
            int length = heap.sizes[handle] + 1;
            runs.read(heap, 1 << handle, heap.size);
            for (int run = runs.count - 1; run >= 0; run--) {
                int begin = runs.begins[run];
                int end = begin + runs.lengths[run];
                if (end - Math.max(begin, from + n) >= length) {
                    return end - length;
                }
                int lowEnd = Math.min(end, from);
                if (lowEnd - begin >= length) {
                    return lowEnd - length;
                }
            }
            return NONE;
        }
    }
}
