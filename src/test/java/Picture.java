/**
 * All that can be asked of an object at the end of a way, and behind each undo from there on, in one
 * text. Each part is asked of an object of its own: one is promised to answer 512 calls, no more.
 */
final class Picture {
    private static final int[] SIZES = {1, 4, 9, 17, 30, 59, 199};

    private Picture() {
    }

    static String of(Boundaries.Way way) {
        StringBuilder text = new StringBuilder();
        int acts = Boundaries.made(way).count(6);
        for (int undone = 0; undone <= acts; undone++) {
            cells(back(way, undone), text);
            handles(back(way, undone), text);
            blocks(back(way, undone), text);
            whatMightBe(back(way, undone), text);
        }
        return text.append(back(way, acts).undo()).toString();
    }

    private static MasterHeap back(Boundaries.Way way, int undone) {
        MasterHeap x = Boundaries.made(way);
        for (int k = 0; k < undone; k++) {
            x.undo();
        }
        return x;
    }

    private static void cells(MasterHeap x, StringBuilder text) {
        int size = x.count(0);
        for (int k = -1; k <= size; k++) {
            text.append(x.cell(k)).append(',').append(x.after(k)).append(' ');
        }
    }

    private static void handles(MasterHeap x, StringBuilder text) {
        for (int what = 0; what <= 7; what++) {
            text.append(x.count(what)).append(' ');
        }
        for (int handle = 0; handle < 8; handle++) {
            for (int what = 0; what <= 8; what++) {
                text.append(x.handle(handle, what)).append(' ');
            }
            text.append(x.get(handle, 0)).append(' ').append(x.order(handle)).append(' ');
        }
        for (int pointer = 0; pointer < 3; pointer++) {
            text.append(x.pointer(pointer, 0)).append(' ').append(x.pointer(pointer, 1)).append(' ');
        }
    }

    private static void blocks(MasterHeap x, StringBuilder text) {
        text.append(Boundaries.blocksOf(x)).append(' ');
        for (int what = 0; what <= 3; what++) {
            text.append(x.free(what)).append(' ');
        }
        int size = x.count(0);
        for (int k = 0; k < size; k += 3) {
            text.append(x.torn(k, 0)).append(' ').append(x.torn(k, 128)).append(' ');
        }
    }

    private static void whatMightBe(MasterHeap x, StringBuilder text) {
        for (int what = 0; what <= 2; what++) {
            text.append(x.greatest(what)).append(' ');
        }
        for (int size : SIZES) {
            for (int what = 0; what <= 4; what++) {
                text.append(x.would(size, what)).append(' ');
            }
            for (int what = 0; what <= 1; what++) {
                text.append(x.fewest(size, what)).append(' ').append(x.cheapest(size, what)).append(' ');
            }
            text.append(x.three(size, 4, 9)).append(' ');
        }
    }
}
