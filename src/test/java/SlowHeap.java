import java.util.ArrayDeque;
import java.util.ArrayList;
import java.util.Arrays;
import java.util.List;

/**
 * The document once more, word by word and slowly, with another inside than MasterHeap: blocks in a
 * list, each with its cells. Nothing is clever here, so that it can be read against the document.
 */
final class SlowHeap {
    static final int NONE = -1;

    static final class Block {
        int owner;
        int[] contents;

        Block(int owner, int length) {
            this.owner = owner;
            this.contents = new int[length - 1];
        }

        int length() {
            return contents.length + 1;
        }

        Block copy() {
            Block b = new Block(owner, length());
            b.contents = contents.clone();
            return b;
        }
    }

    static final class Hand implements Cloneable {
        int kind;
        int size;
        int locks;
        int least;
        int cost;
        int touched;
        boolean purgeable;

        Hand copy() {
            Hand h = new Hand();
            h.kind = kind;
            h.size = size;
            h.locks = locks;
            h.least = least;
            h.cost = cost;
            h.touched = touched;
            h.purgeable = purgeable;
            return h;
        }
    }

    /** How a fit was found. */
    static final class Found {
        int at;
        int step;
        int squeezed;
        int purged;
    }

    static final class World {
        List<Block> blocks = new ArrayList<>();
        Hand[] hands = new Hand[8];
        int size;
        int most;
        int clock;
        int policy;
        int bill;

        World(int size, int most) {
            this.size = size;
            this.most = most;
            for (int h = 0; h < 8; h++) {
                hands[h] = new Hand();
            }
            if (size > 0) {
                blocks.add(new Block(0, size));
            }
        }

        World copy() {
            World w = new World(0, most);
            w.size = size;
            for (Block b : blocks) {
                w.blocks.add(b.copy());
            }
            for (int h = 0; h < 8; h++) {
                w.hands[h] = hands[h].copy();
            }
            w.clock = clock;
            w.policy = policy;
            w.bill = bill;
            return w;
        }

        int beginOf(Block block) {
            int at = 0;
            for (Block b : blocks) {
                if (b == block) {
                    return at;
                }
                at += b.length();
            }
            throw new IllegalStateException("no such block");
        }

        Block ofOwner(int owner) {
            for (Block b : blocks) {
                if (b.owner == owner) {
                    return b;
                }
            }
            return null;
        }

        Block beginningAt(int k) {
            int at = 0;
            for (Block b : blocks) {
                if (at == k) {
                    return b;
                }
                at += b.length();
            }
            return null;
        }

        boolean isFixed(Block b) {
            return b.owner >= 33 || b.owner >= 1 && hands[b.owner - 1].locks > 0;
        }

        boolean isLooseNotFixed(Block b) {
            return b.owner >= 1 && b.owner <= 8 && !isFixed(b);
        }

        void join() {
            for (int i = 0; i + 1 < blocks.size(); ) {
                if (blocks.get(i).owner == 0 && blocks.get(i + 1).owner == 0) {
                    Block both = new Block(0, blocks.get(i).length() + blocks.get(i + 1).length());
                    blocks.remove(i + 1);
                    blocks.set(i, both);
                } else {
                    i++;
                }
            }
        }

        void release(int owner) {
            Block b = ofOwner(owner);
            int i = blocks.indexOf(b);
            blocks.set(i, new Block(0, b.length()));
            join();
        }

        /** Makes a block shorter; the cells behind are free. */
        void cut(int owner, int newLength) {
            Block b = ofOwner(owner);
            int i = blocks.indexOf(b);
            Block shorter = new Block(owner, newLength);
            System.arraycopy(b.contents, 0, shorter.contents, 0, newLength - 1);
            blocks.set(i, shorter);
            blocks.add(i + 1, new Block(0, b.length() - newLength));
            join();
        }

        /** Cells from at on, which are all of one free block, become a block. */
        void take(int at, Block made) {
            int begin = 0;
            for (int i = 0; i < blocks.size(); i++) {
                Block b = blocks.get(i);
                int end = begin + b.length();
                if (at >= begin && at < end) {
                    if (b.owner != 0 || at + made.length() > end) {
                        throw new IllegalStateException("not free");
                    }
                    blocks.remove(i);
                    if (end > at + made.length()) {
                        blocks.add(i, new Block(0, end - at - made.length()));
                    }
                    blocks.add(i, made);
                    if (at > begin) {
                        blocks.add(i, new Block(0, at - begin));
                    }
                    return;
                }
                begin = end;
            }
            throw new IllegalStateException("no such cell");
        }

        int[] cells() {
            int[] cells = new int[size];
            int at = 0;
            for (Block b : blocks) {
                cells[at] = 64 * b.length() + b.owner;
                for (int k = 0; k < b.contents.length; k++) {
                    cells[at + 1 + k] = b.contents[k];
                }
                at += b.length();
            }
            if (at != size) {
                throw new IllegalStateException("blocks do not fill the heap");
            }
            return cells;
        }

        int worth(int h) {
            Hand x = hands[h];
            int[] worths = {x.touched, x.cost, (int) Math.floor(100.0 * x.cost / x.size), 1000 - x.size,
                    x.touched + 4 * x.cost};
            return worths[policy];
        }

        boolean canGo(int h) {
            return hands[h].kind == 1 && hands[h].purgeable && hands[h].locks == 0;
        }

        boolean canBeLess(int h) {
            return hands[h].kind == 1 && hands[h].locks == 0 && hands[h].least < hands[h].size;
        }

        Block slideOnce() {
            for (int i = 0; i + 1 < blocks.size(); i++) {
                Block free = blocks.get(i);
                Block loose = blocks.get(i + 1);
                if (free.owner == 0 && isLooseNotFixed(loose)) {
                    blocks.set(i, loose);
                    blocks.set(i + 1, free);
                    join();
                    return blocks.get(i + 1);
                }
            }
            return null;
        }

        int firstFree(int n) {
            for (Block b : blocks) {
                if (b.owner == 0 && b.length() >= n) {
                    return beginOf(b);
                }
            }
            return NONE;
        }

        int slide(int n) {
            for (;;) {
                Block free = slideOnce();
                if (free == null) {
                    return NONE;
                }
                if (free.length() >= n) {
                    return beginOf(free);
                }
            }
        }

        int grow(int n) {
            while (size < most) {
                size++;
                blocks.add(new Block(0, 1));
                join();
                Block last = blocks.get(blocks.size() - 1);
                if (last.length() >= n) {
                    return beginOf(last);
                }
            }
            return NONE;
        }

        /** Gap of each block; NONE for a fixed one. */
        int[] gapOfBlocks() {
            int[] gaps = new int[blocks.size()];
            int gap = NONE;
            boolean inGap = false;
            for (int i = 0; i < gaps.length; i++) {
                if (isFixed(blocks.get(i))) {
                    inGap = false;
                    gaps[i] = NONE;
                } else {
                    if (!inGap) {
                        gap++;
                    }
                    inGap = true;
                    gaps[i] = gap;
                }
            }
            return gaps;
        }

        int gaps() {
            int most = NONE;
            for (int g : gapOfBlocks()) {
                most = Math.max(most, g);
            }
            return most + 1;
        }

        int[] gapLengths() {
            int[] lengths = new int[gaps()];
            int[] of = gapOfBlocks();
            for (int i = 0; i < of.length; i++) {
                if (of[i] != NONE) {
                    lengths[of[i]] += blocks.get(i).length();
                }
            }
            return lengths;
        }

        int arrange(int n) {
            int[] of = gapOfBlocks();
            int[] room = gapLengths();
            List<Block> loose = new ArrayList<>();
            List<Integer> homes = new ArrayList<>();
            for (int i = 0; i < of.length; i++) {
                if (isLooseNotFixed(blocks.get(i))) {
                    loose.add(blocks.get(i));
                    homes.add(of[i]);
                }
            }
            Ways ways = new Ways(loose, homes, room, n);
            ways.go(0, 0);
            if (ways.best == null) {
                return NONE;
            }
            return lay(loose, ways.best, of, n);
        }

        int lay(List<Block> loose, int[] given, int[] of, int n) {
            int[] room = gapLengths();
            List<Block> laid = new ArrayList<>();
            Block found = null;
            for (int i = 0; i < of.length; i++) {
                if (of[i] == NONE) {
                    laid.add(blocks.get(i));
                } else if (i == 0 || of[i - 1] != of[i]) {
                    int left = room[of[i]];
                    for (int k = 0; k < given.length; k++) {
                        if (given[k] == of[i]) {
                            laid.add(loose.get(k));
                            left -= loose.get(k).length();
                        }
                    }
                    if (left > 0) {
                        Block free = new Block(0, left);
                        laid.add(free);
                        if (found == null && left >= n) {
                            found = free;
                        }
                    }
                }
            }
            blocks = laid;
            return beginOf(found);
        }

        /** Null: there is no fit (and this world is spoilt). */
        Found fit(int n, int spared, boolean maySqueeze, boolean mayPurge) {
            Found found = new Found();
            for (;;) {
                found.step = 1;
                found.at = firstFree(n);
                if (found.at == NONE) {
                    found.step = 2;
                    found.at = slide(n);
                }
                if (found.at == NONE) {
                    found.step = 3;
                    found.at = grow(n);
                }
                if (found.at == NONE) {
                    found.step = 4;
                    found.at = arrange(n);
                }
                if (found.at != NONE) {
                    return found;
                }
                int less = NONE;
                int go = NONE;
                for (int h = 0; h < 8; h++) {
                    if (h != spared && canBeLess(h) && (less == NONE || worth(h) < worth(less))) {
                        less = h;
                    }
                    if (h != spared && canGo(h) && (go == NONE || worth(h) < worth(go))) {
                        go = h;
                    }
                }
                if (maySqueeze && less != NONE) {
                    hands[less].size = hands[less].least;
                    cut(1 + less, hands[less].least + 1);
                    found.squeezed |= 1 << less;
                } else if (mayPurge && go != NONE) {
                    hands[go].kind = 2;
                    release(1 + go);
                    found.purged |= 1 << go;
                } else {
                    return null;
                }
            }
        }

        /** Takes the block out and puts it at the end of the last run of free cells without some. */
        boolean goHigh(int owner, int from, int n) {
            Block b = ofOwner(owner);
            int i = blocks.indexOf(b);
            blocks.set(i, new Block(0, b.length()));
            join();
            boolean[] free = freeCells(size);
            for (int k = from; k < from + n; k++) {
                free[k] = false;
            }
            int run = 0;
            for (int k = size - 1; k >= 0; k--) {
                run = free[k] ? run + 1 : 0;
                if (run == b.length()) {
                    // the last run that is long enough: its end is where this run began
                    take(k, b);
                    return true;
                }
            }
            return false;
        }

        boolean[] freeCells(int extent) {
            boolean[] free = new boolean[extent];
            Arrays.fill(free, true);
            int at = 0;
            for (Block b : blocks) {
                for (int k = at; k < at + b.length(); k++) {
                    free[k] = b.owner == 0;
                }
                at += b.length();
            }
            return free;
        }

        /** Another world where the place is cleared; null: it can't be. */
        World cleared(int place, int n) {
            if (place + n > size) {
                return null;
            }
            List<Integer> owners = new ArrayList<>();
            int at = 0;
            for (Block b : blocks) {
                if (at < place + n && at + b.length() > place) {
                    if (isFixed(b)) {
                        return null;
                    }
                    if (b.owner != 0) {
                        owners.add(b.owner);
                    }
                }
                at += b.length();
            }
            World w = copy();
            for (int owner : owners) {
                if (!w.goHigh(owner, place, n)) {
                    return null;
                }
            }
            return w;
        }
    }

    /** Every way to give the blocks to gaps, the first first. */
    static final class Ways {
        final List<Block> loose;
        final List<Integer> homes;
        final int[] room;
        final int n;
        final int[] given;
        int[] best;
        int bestMoves;

        Ways(List<Block> loose, List<Integer> homes, int[] room, int n) {
            this.loose = loose;
            this.homes = homes;
            this.room = room.clone();
            this.n = n;
            this.given = new int[loose.size()];
        }

        void go(int k, int moves) {
            if (k == given.length) {
                boolean any = false;
                for (int r : room) {
                    any |= r >= n;
                }
                if (any && (best == null || moves < bestMoves)) {
                    best = given.clone();
                    bestMoves = moves;
                }
                return;
            }
            for (int g = 0; g < room.length; g++) {
                int length = loose.get(k).length();
                if (length <= room[g]) {
                    room[g] -= length;
                    given[k] = g;
                    go(k + 1, moves + (g == homes.get(k) ? 0 : 1));
                    room[g] += length;
                }
            }
        }
    }

    World now;
    World ahead;
    final ArrayDeque<World> past = new ArrayDeque<>();

    SlowHeap() {
        start(64, 64);
    }

    boolean start(int size, int most) {
        if (size < 8 || size > 200 || most < size || most > 200) {
            return false;
        }
        now = new World(size, most);
        ahead = null;
        past.clear();
        return true;
    }

    private void done(World then, int touched) {
        past.addLast(now);
        if (past.size() > 12) {
            past.removeFirst();
        }
        ahead = now;
        now = then;
        now.clock++;
        if (touched != NONE) {
            now.hands[touched].touched = now.clock;
        }
    }

    private boolean is(int h, int... kinds) {
        if (h < 0 || h > 7) {
            return false;
        }
        for (int kind : kinds) {
            if (now.hands[h].kind == kind) {
                return true;
            }
        }
        return false;
    }

    private boolean isIsland(int p) {
        return p >= 0 && p <= 2 && now.ofOwner(33 + p) != null;
    }

    int make(int size, int cost) {
        int h = 0;
        while (h < 8 && now.hands[h].kind != 0) {
            h++;
        }
        if (size < 1 || size > 60 || cost < 0 || cost > 9 || h == 8) {
            return NONE;
        }
        World w = now.copy();
        Found found = w.fit(size + 1, NONE, true, true);
        if (found == null) {
            return -2;
        }
        w.take(found.at, new Block(1 + h, size + 1));
        Hand x = new Hand();
        x.kind = 1;
        x.size = size;
        x.least = size;
        x.cost = cost;
        w.hands[h] = x;
        done(w, h);
        return h;
    }

    int put(int h, int k, int v) {
        if (!is(h, 1) || k < 0 || k >= now.hands[h].size) {
            return 0;
        }
        World w = now.copy();
        int old = w.ofOwner(1 + h).contents[k];
        w.ofOwner(1 + h).contents[k] = v;
        done(w, h);
        return old;
    }

    int set(int p, int k, int v) {
        if (!isIsland(p) || k < 0 || k >= now.ofOwner(33 + p).contents.length) {
            return 0;
        }
        World w = now.copy();
        int old = w.ofOwner(33 + p).contents[k];
        w.ofOwner(33 + p).contents[k] = v;
        done(w, NONE);
        return old;
    }

    boolean touch(int h) {
        if (!is(h, 1, 2)) {
            return false;
        }
        done(now.copy(), h);
        return true;
    }

    int lock(int h) {
        if (!is(h, 1) || now.hands[h].locks == 7) {
            return NONE;
        }
        World w = now.copy();
        int locks = ++w.hands[h].locks;
        done(w, h);
        return locks;
    }

    int unlock(int h) {
        if (!is(h, 1) || now.hands[h].locks == 0) {
            return NONE;
        }
        World w = now.copy();
        int locks = --w.hands[h].locks;
        done(w, NONE);
        return locks;
    }

    int high(int h) {
        if (!is(h, 1) || now.hands[h].locks > 0) {
            return NONE;
        }
        World w = now.copy();
        if (!w.goHigh(1 + h, 0, 0)) {
            throw new IllegalStateException("its own place is there");
        }
        w.hands[h].locks = 1;
        done(w, h);
        return now.beginOf(now.ofOwner(1 + h));
    }

    boolean mark(int h, boolean is) {
        if (!is(h, 1, 2) || now.hands[h].purgeable == is) {
            return false;
        }
        World w = now.copy();
        w.hands[h].purgeable = is;
        done(w, NONE);
        return true;
    }

    boolean drop(int h) {
        if (!is(h, 1, 2) || now.hands[h].locks > 0) {
            return false;
        }
        World w = now.copy();
        if (w.hands[h].kind == 1) {
            w.release(1 + h);
        }
        w.hands[h] = new Hand();
        done(w, NONE);
        return true;
    }

    int least(int h, int n) {
        if (!is(h, 1) || n < 1 || n > now.hands[h].size || n == now.hands[h].least) {
            return NONE;
        }
        World w = now.copy();
        int old = w.hands[h].least;
        w.hands[h].least = n;
        done(w, NONE);
        return old;
    }

    boolean purge(int h) {
        if (h < 0 || h > 7 || !now.canGo(h)) {
            return false;
        }
        World w = now.copy();
        w.hands[h].kind = 2;
        w.release(1 + h);
        done(w, NONE);
        return true;
    }

    int remake(int h) {
        if (!is(h, 2)) {
            return NONE;
        }
        World w = now.copy();
        Found found = w.fit(w.hands[h].size + 1, NONE, true, true);
        if (found == null) {
            return -2;
        }
        w.take(found.at, new Block(1 + h, w.hands[h].size + 1));
        w.hands[h].kind = 1;
        w.bill += w.hands[h].cost;
        done(w, h);
        return found.at;
    }

    int resize(int h, int size) {
        if (!is(h, 1) || size < 1 || size > 60 || size == now.hands[h].size) {
            return NONE;
        }
        World w = now.copy();
        Block b = w.ofOwner(1 + h);
        int old = w.hands[h].size;
        if (size < old) {
            w.cut(1 + h, size + 1);
        } else {
            int i = w.blocks.indexOf(b);
            Block behind = i + 1 < w.blocks.size() ? w.blocks.get(i + 1) : null;
            Block made = new Block(1 + h, size + 1);
            if (behind != null && behind.owner == 0 && behind.length() >= size - old) {
                System.arraycopy(b.contents, 0, made.contents, 0, old);
                w.blocks.set(i, made);
                w.blocks.remove(i + 1);
                if (behind.length() > size - old) {
                    w.blocks.add(i + 1, new Block(0, behind.length() - (size - old)));
                }
            } else {
                if (w.isFixed(b)) {
                    return -2;
                }
                Found found = w.fit(size + 1, h, true, true);
                if (found == null) {
                    return -2;
                }
                System.arraycopy(w.ofOwner(1 + h).contents, 0, made.contents, 0, old);
                w.release(1 + h);
                w.take(found.at, made);
            }
        }
        w.hands[h].size = size;
        w.hands[h].least = Math.min(w.hands[h].least, size);
        done(w, h);
        return now.beginOf(now.ofOwner(1 + h));
    }

    /** A world where the first place that can be is cleared, with that place; null without any. */
    private Object[] clearFirst(int n) {
        for (Block b : now.blocks) {
            if (!now.isFixed(b)) {
                World w = now.cleared(now.beginOf(b), n);
                if (w != null) {
                    return new Object[] {w, now.beginOf(b)};
                }
            }
        }
        return null;
    }

    int fix(int size) {
        int p = 0;
        while (p < 3 && isIsland(p)) {
            p++;
        }
        if (size < 1 || size > 60 || p == 3) {
            return NONE;
        }
        Object[] cleared = clearFirst(size + 1);
        World w;
        int at;
        if (cleared != null) {
            w = (World) cleared[0];
            at = (Integer) cleared[1];
        } else {
            w = now.copy();
            at = w.grow(size + 1);
            if (at == NONE) {
                return -2;
            }
        }
        w.take(at, new Block(33 + p, size + 1));
        done(w, NONE);
        return p;
    }

    boolean unfix(int p) {
        if (!isIsland(p)) {
            return false;
        }
        World w = now.copy();
        w.release(33 + p);
        done(w, NONE);
        return true;
    }

    int reserve(int size) {
        if (size < 1 || size > 60) {
            return NONE;
        }
        Object[] cleared = clearFirst(size + 1);
        if (cleared == null) {
            return -2;
        }
        done((World) cleared[0], NONE);
        return (Integer) cleared[1];
    }

    int compact() {
        World w = now.copy();
        w.slide(1000);
        done(w, NONE);
        return moved();
    }

    int policy(int n) {
        if (n < 0 || n > 4 || n == now.policy) {
            return NONE;
        }
        World w = now.copy();
        int old = w.policy;
        w.policy = n;
        done(w, NONE);
        return old;
    }

    int undo() {
        if (past.isEmpty()) {
            return NONE;
        }
        now = past.removeLast();
        ahead = null;
        return past.size();
    }

    int moved() {
        int moved = 0;
        for (int h = 0; ahead != null && h < 8; h++) {
            if (ahead.hands[h].kind == 1 && now.hands[h].kind == 1
                    && ahead.beginOf(ahead.ofOwner(1 + h)) != now.beginOf(now.ofOwner(1 + h))) {
                moved++;
            }
        }
        return moved;
    }

    int handle(int h, int what) {
        if (h < 0 || h > 7 || what < 0 || what > 8) {
            return NONE;
        }
        Hand x = now.hands[h];
        if (what == 0) {
            return x.kind;
        }
        if (x.kind == 0) {
            return NONE;
        }
        int lies = x.kind == 1 ? now.beginOf(now.ofOwner(1 + h)) : NONE;
        return new int[] {x.kind, lies, x.size, x.locks, x.purgeable ? 1 : 0, x.cost, x.touched,
                now.worth(h), x.least}[what];
    }

    int get(int h, int k) {
        return is(h, 1) && k >= 0 && k < now.hands[h].size ? now.ofOwner(1 + h).contents[k] : 0;
    }

    int pointer(int p, int what) {
        if (!isIsland(p) || what < 0 || what > 1) {
            return NONE;
        }
        Block b = now.ofOwner(33 + p);
        return what == 0 ? now.beginOf(b) : b.contents.length;
    }

    int cell(int k) {
        return k >= 0 && k < now.size ? now.cells()[k] : 0;
    }

    int block(int k, int what) {
        if (k < 0 || k >= now.blocks.size() || what < 0 || what > 2) {
            return NONE;
        }
        Block b = now.blocks.get(k);
        return new int[] {now.beginOf(b), b.length(), b.owner}[what];
    }

    int free(int what) {
        int cells = 0;
        int longest = 0;
        int blocks = 0;
        for (Block b : now.blocks) {
            if (b.owner == 0) {
                cells += b.length();
                longest = Math.max(longest, b.length());
                blocks++;
            }
        }
        return what < 0 || what > 3 ? NONE : new int[] {cells, longest, blocks, now.gaps()}[what];
    }

    int would(int size, int what) {
        if (size < 1 || size > 199 || what < 0 || what > 4) {
            return NONE;
        }
        World w = now.copy();
        Found found = w.fit(size + 1, NONE, true, true);
        if (found == null) {
            return -2;
        }
        return new int[] {found.step, found.purged, found.at, w.size, found.squeezed}[what];
    }

    int greatest(int what) {
        if (what < 0 || what > 2) {
            return NONE;
        }
        for (int size = 199; size >= 1; size--) {
            if (now.copy().fit(size + 1, NONE, what >= 1, what >= 2) != null) {
                return size;
            }
        }
        return 0;
    }

    int fewest(int size, int what) {
        if (size < 1 || size > 199 || what < 0 || what > 1) {
            return NONE;
        }
        int best = NONE;
        for (int set = 0; set < 256; set++) {
            World w = now.copy();
            boolean can = best == NONE || Integer.bitCount(set) < Integer.bitCount(best);
            for (int h = 0; h < 8 && can; h++) {
                if ((set & 1 << h) != 0) {
                    can = now.canGo(h);
                    if (can) {
                        w.hands[h].kind = 2;
                        w.release(1 + h);
                    }
                }
            }
            if (can && w.fit(size + 1, NONE, false, false) != null) {
                best = set;
            }
        }
        if (best == NONE) {
            return -2;
        }
        return what == 0 ? Integer.bitCount(best) : best;
    }

    private static boolean placeEach(List<Integer> items, int k, int[] room) {
        if (k == items.size()) {
            return true;
        }
        for (int r = 0; r < room.length; r++) {
            if (room[r] >= items.get(k)) {
                room[r] -= items.get(k);
                boolean can = placeEach(items, k + 1, room);
                room[r] += items.get(k);
                if (can) {
                    return true;
                }
            }
        }
        return false;
    }

    private static int[] runs(boolean[] open) {
        List<Integer> lengths = new ArrayList<>();
        for (int k = 0; k < open.length; k++) {
            if (open[k] && k > 0 && open[k - 1]) {
                lengths.set(lengths.size() - 1, lengths.get(lengths.size() - 1) + 1);
            } else if (open[k]) {
                lengths.add(1);
            }
        }
        return lengths.stream().mapToInt(Integer::intValue).toArray();
    }

    boolean three(int a, int b, int c) {
        List<Integer> items = new ArrayList<>();
        for (int size : new int[] {a, b, c}) {
            if (size < 0 || size > 199) {
                return false;
            }
            if (size > 0) {
                items.add(size + 1);
            }
        }
        World w = now.copy();
        w.grow(1000);
        for (Block x : w.blocks) {
            if (w.isLooseNotFixed(x)) {
                items.add(x.length());
            }
        }
        items.sort((x, y) -> y - x);
        return placeEach(items, 0, w.gapLengths());
    }

    int cheapest(int size, int what) {
        if (size < 1 || size > 199 || what < 0 || what > 1) {
            return NONE;
        }
        int best = NONE;
        int bestCells = 0;
        for (int set = 0; set < 256; set++) {
            boolean[] free = now.freeCells(now.most);
            List<Integer> items = new ArrayList<>();
            items.add(size + 1);
            int cells = 0;
            boolean can = true;
            for (int h = 0; h < 8; h++) {
                if ((set & 1 << h) != 0) {
                    Block b = now.ofOwner(1 + h);
                    can &= b != null && now.isLooseNotFixed(b);
                    if (can) {
                        items.add(b.length());
                        cells += b.length();
                        int at = now.beginOf(b);
                        Arrays.fill(free, at, at + b.length(), true);
                    }
                }
            }
            items.sort((x, y) -> y - x);
            if (can && (best == NONE || cells < bestCells) && placeEach(items, 0, runs(free))) {
                best = set;
                bestCells = cells;
            }
        }
        if (best == NONE) {
            return -2;
        }
        return what == 0 ? bestCells : best;
    }

    int after(int k) {
        for (int h = 0; ahead != null && h < 8; h++) {
            Block was = ahead.ofOwner(1 + h);
            if (was != null) {
                int offset = k - ahead.beginOf(was);
                if (offset >= 1 && offset < was.length()) {
                    Block is = now.ofOwner(1 + h);
                    return is == null || offset >= is.length() ? -2 : now.beginOf(is) + offset;
                }
            }
        }
        return NONE;
    }

    int order(int k) {
        List<Integer> goers = new ArrayList<>();
        for (int h = 0; h < 8; h++) {
            if (now.canGo(h)) {
                goers.add(h);
            }
        }
        goers.sort((x, y) -> now.worth(x) != now.worth(y) ? now.worth(x) - now.worth(y) : x - y);
        return k >= 0 && k < goers.size() ? goers.get(k) : NONE;
    }

    int torn(int k, int v) {
        if (k < 0 || k >= now.size) {
            return -2;
        }
        int[] cells = now.cells();
        cells[k] = v;
        int at = 0;
        int behind = NONE;
        while (at < now.size) {
            int length = cells[at] / 64;
            int owner = cells[at] % 64;
            if (cells[at] < 64 || at + length > now.size) {
                return at;
            }
            if (owner != 0) {
                Block b = now.ofOwner(owner);
                if (b == null || now.beginOf(b) != at || b.length() != length) {
                    return at;
                }
            } else if (behind == 0) {
                return at;
            }
            behind = owner;
            at += length;
        }
        return NONE;
    }

    int count(int what) {
        return what < 0 || what > 7 ? NONE : new int[] {now.size, now.most, now.clock, now.policy,
                now.bill, moved(), past.size(), now.blocks.size()}[what];
    }
}
