import java.util.ArrayList;

/** Packs boxes, glue, kerns and rules into boxes, as DOC.md promises. */
public final class BoxGlue {
    public static final int BAD = -1;
    public static final int FULL = -2;
    public static final int NO = -3;
    public static final int RUNNING = -1000000;

    private static final int MOST_IN_LIST = 40;
    private static final int MOST_BOXES = 60;
    private static final int MOST_IN_BOXES = 300;
    private static final int LONGEST = 100000;
    private static final int LONGEST_PACKED = 1000000;
    private static final int MOST_GIVING = 1000;
    private static final int GREATEST_ORDER = 3;
    private static final int NO_ORDER = -1;
    private static final int OWN_LENGTH = -1;
    private static final int WORST_BADNESS = 10000;
    private static final int OVER_BADNESS = 1000000;

    private final ArrayList<Item> list;
    private final ArrayList<Box> made;
    private int inBoxes;

    public BoxGlue() {
        list = new ArrayList<Item>();
        made = new ArrayList<Box>();
        inBoxes = 0;
    }

    public int box(int length, int height, int depth) {
        if (!isExtent(length) || !isExtent(height) || !isExtent(depth)) {
            return BAD;
        }
        if (made.size() >= MOST_BOXES) {
            return FULL;
        }
        made.add(Box.bare(length, height, depth));
        return made.size() - 1;
    }

    public int put(int box, int shift) {
        if (!isBox(box) || !isLength(shift)) {
            return BAD;
        }
        return append(new Put(made.get(box), shift));
    }

    public int glue(int natural, int stretch, int order, int shrink, int order2) {
        if (!isLength(natural) || !isGiving(stretch, order) || !isGiving(shrink, order2)) {
            return BAD;
        }
        return append(new Glue(natural, stretch, order, shrink, order2, new Leaders(0, 0)));
    }

    public int kern(int length) {
        if (!isLength(length)) {
            return BAD;
        }
        return append(new Kern(length));
    }

    public int rule(int length, int height, int depth) {
        if (!isExtent(length) || !isExtentOrRunning(height) || !isExtentOrRunning(depth)) {
            return BAD;
        }
        return append(new Rule(length, height, depth));
    }

    public int leaders(int kind, int box) {
        if (kind < Leaders.ALIGNED || kind > Leaders.SPREAD || !isBox(box)) {
            return BAD;
        }
        if (list.isEmpty()) {
            return NO;
        }
        int last = list.size() - 1;
        if (list.get(last) instanceof Glue glue) {
            // The glue may also stand in a box that was unpacked, so it is replaced, not changed.
            list.set(last, glue.with(new Leaders(kind, made.get(box).length)));
            return 1;
        }
        return NO;
    }

    public int pack(int to) {
        if (to < OWN_LENGTH || to > LONGEST_PACKED) {
            return BAD;
        }
        int own = Fit.lengthOf(list);
        if (to == OWN_LENGTH && own > LONGEST_PACKED) {
            return BAD;
        }
        if (made.size() >= MOST_BOXES || inBoxes + list.size() > MOST_IN_BOXES) {
            return FULL;
        }
        made.add(Box.packed(list, to == OWN_LENGTH ? Math.max(own, 0) : to));
        inBoxes += list.size();
        list.clear();
        return made.size() - 1;
    }

    public int unpack(int box) {
        if (!isBox(box)) {
            return BAD;
        }
        ArrayList<Placed> contents = made.get(box).contents;
        int count = contents.size();
        if (list.size() + count > MOST_IN_LIST) {
            return FULL;
        }
        for (int i = 0; i < count; i++) {
            list.add(contents.get(i).given);
        }
        return list.size();
    }

    public int told(int box, int what) {
        if (!isBox(box)) {
            return BAD;
        }
        return made.get(box).answer(what);
    }

    public int item(int box, int i, int what) {
        if (!isBox(box)) {
            return BAD;
        }
        Box holder = made.get(box);
        if (i < 0 || i >= holder.contents.size()) {
            return BAD;
        }
        return holder.contents.get(i).answer(what, holder);
    }

    public int size() {
        return list.size();
    }

    public long natural() {
        return Fit.lengthOf(list);
    }

    public int drop() {
        if (list.isEmpty()) {
            return NO;
        }
        list.remove(list.size() - 1);
        return list.size();
    }

    public int boxes() {
        return made.size();
    }

    private int append(Item item) {
        if (list.size() >= MOST_IN_LIST) {
            return FULL;
        }
        list.add(item);
        return list.size();
    }

    private boolean isBox(int box) {
        return box >= 0 && box < made.size();
    }

    private static boolean isLength(int length) {
        return length >= -LONGEST && length <= LONGEST;
    }

    private static boolean isExtent(int extent) {
        return extent >= 0 && extent <= LONGEST;
    }

    private static boolean isExtentOrRunning(int extent) {
        return extent == RUNNING || isExtent(extent);
    }

    private static boolean isGiving(int amount, int order) {
        return amount >= 0 && amount <= MOST_GIVING && order >= 0 && order <= GREATEST_ORDER;
    }

    /** An item as it was given. It never changes, so lists and boxes may share it. */
    private abstract static class Item {
        final int sort;
        final int ownLength;

        Item(int sort, int ownLength) {
            this.sort = sort;
            this.ownLength = ownLength;
        }

        /** How much it stretches (or else shrinks) by just this order. */
        int giving(boolean stretches, int order) {
            return 0;
        }

        int heightWhere(int running) {
            return 0;
        }

        int depthWhere(int running) {
            return 0;
        }

        int leadersDrawn(int place, int length) {
            return 0;
        }

        int firstLeader(int place, int length) {
            return 0;
        }

        int leaderStep(int place, int length) {
            return 0;
        }
    }

    private static final class Put extends Item {
        private final int height;
        private final int depth;

        Put(Box box, int shift) {
            super(1, box.length);
            height = box.height - shift;
            depth = box.depth + shift;
        }

        @Override
        int heightWhere(int running) {
            return height;
        }

        @Override
        int depthWhere(int running) {
            return depth;
        }
    }

    private static final class Glue extends Item {
        private final int stretch;
        private final int stretchOrder;
        private final int shrink;
        private final int shrinkOrder;
        private final Leaders row;

        Glue(int ownLength, int stretch, int stretchOrder, int shrink, int shrinkOrder, Leaders row) {
            super(2, ownLength);
            this.stretch = stretch;
            this.stretchOrder = stretchOrder;
            this.shrink = shrink;
            this.shrinkOrder = shrinkOrder;
            this.row = row;
        }

        Glue with(Leaders newRow) {
            return new Glue(ownLength, stretch, stretchOrder, shrink, shrinkOrder, newRow);
        }

        @Override
        int giving(boolean stretches, int order) {
            if (stretches) {
                return order == stretchOrder ? stretch : 0;
            }
            return order == shrinkOrder ? shrink : 0;
        }

        @Override
        int leadersDrawn(int place, int length) {
            return row.drawn(place, length);
        }

        @Override
        int firstLeader(int place, int length) {
            return row.first(place, length);
        }

        @Override
        int leaderStep(int place, int length) {
            return row.step(place, length);
        }
    }

    private static final class Kern extends Item {
        Kern(int ownLength) {
            super(3, ownLength);
        }
    }

    private static final class Rule extends Item {
        private final int height;
        private final int depth;

        Rule(int ownLength, int height, int depth) {
            super(4, ownLength);
            this.height = height;
            this.depth = depth;
        }

        @Override
        int heightWhere(int running) {
            return height == RUNNING ? running : height;
        }

        @Override
        int depthWhere(int running) {
            return depth == RUNNING ? running : depth;
        }
    }

    /** Copies of a box in glue. Glue without leaders has those of a box of length 0: none is drawn. */
    private static final class Leaders {
        static final int ALIGNED = 1;
        static final int CENTRED = 2;
        static final int SPREAD = 3;

        private final int kind;
        private final int boxLength;

        Leaders(int kind, int boxLength) {
            this.kind = kind;
            this.boxLength = boxLength;
        }

        int drawn(int place, int length) {
            if (boxLength <= 0 || length < boxLength) {
                return 0;
            }
            if (kind == ALIGNED) {
                return Math.floorDiv(place + length, boxLength) - alignedFrom(place);
            }
            return length / boxLength;
        }

        int first(int place, int length) {
            if (boxLength <= 0 || drawn(place, length) == 0) {
                return 0;
            }
            if (kind == ALIGNED) {
                return alignedFrom(place) * boxLength;
            }
            if (kind == CENTRED) {
                return place + length % boxLength / 2;
            }
            return place + gap(length);
        }

        int step(int place, int length) {
            if (drawn(place, length) == 0) {
                return 0;
            }
            return kind == SPREAD ? boxLength + gap(length) : boxLength;
        }

        /** The number of the first aligned place not before this one, which may be below 0. */
        private int alignedFrom(int place) {
            return boxLength <= 0 ? 0 : -Math.floorDiv(-place, boxLength);
        }

        private int gap(int length) {
            if (boxLength <= 0 || length < boxLength) {
                return 0;
            }
            return length % boxLength / (length / boxLength + 1);
        }
    }

    /** What a list's items must give together, so that it comes to have a length. */
    private static final class Fit {
        final int ownLength;
        final int order;
        private final int missing;
        private final int sum;

        Fit(int ownLength, int missing, int order, int sum) {
            this.ownLength = ownLength;
            this.missing = missing;
            this.order = order;
            this.sum = sum;
        }

        static Fit of(ArrayList<Item> items, int length) {
            int own = lengthOf(items);
            int missing = length - own;
            int order = missing == 0 ? NO_ORDER : greatestOrder(items, missing > 0);
            return new Fit(own, missing, order, sumOf(items, missing > 0, order));
        }

        static int lengthOf(ArrayList<Item> items) {
            int length = 0;
            for (int i = 0; i < items.size(); i++) {
                length += items.get(i).ownLength;
            }
            return length;
        }

        private static int greatestOrder(ArrayList<Item> items, boolean stretches) {
            for (int order = GREATEST_ORDER; order >= 0; order--) {
                if (sumOf(items, stretches, order) != 0) {
                    return order;
                }
            }
            return NO_ORDER;
        }

        private static int sumOf(ArrayList<Item> items, boolean stretches, int order) {
            int sum = 0;
            for (int i = 0; i < items.size(); i++) {
                sum += items.get(i).giving(stretches, order);
            }
            return sum;
        }

        int givingOf(Item item) {
            return item.giving(missing > 0, order);
        }

        /** What an item's length changes by, when the giving before it is so much, and with it so much. */
        int change(int before, int with) {
            return share(with) - share(before);
        }

        private int share(int giving) {
            if (sum == 0) {
                return 0;
            }
            long shared = missing + over();
            return (int) (shared * giving / sum);
        }

        int over() {
            // Glue of an order above 0 shrinks without an end.
            return missing < 0 && order <= 0 ? Math.max(-missing - sum, 0) : 0;
        }

        int badness() {
            if (missing == 0 || order > 0) {
                return 0;
            }
            if (over() > 0) {
                return OVER_BADNESS;
            }
            return cubed(Math.abs(missing));
        }

        private int cubed(long amount) {
            // From 5 times the sum on it is the worst in any case, and the cube might not fit a long.
            if (sum == 0 || amount >= 5L * sum) {
                return WORST_BADNESS;
            }
            long whole = sum;
            long bad = 100 * amount * amount * amount / (whole * whole * whole);
            return (int) Math.min(bad, WORST_BADNESS);
        }
    }

    /** An item in a box: what was given, and what it came to be there. */
    private static final class Placed {
        final Item given;
        private final int place;
        private final int length;

        Placed(Item given, int place, int length) {
            this.given = given;
            this.place = place;
            this.length = length;
        }

        int answer(int what, Box holder) {
            switch (what) {
                case 0: return given.sort;
                case 1: return length;
                case 2: return place;
                case 3: return given.leadersDrawn(place, length);
                case 4: return given.firstLeader(place, length);
                case 5: return given.leaderStep(place, length);
                case 6: return given.heightWhere(holder.height);
                case 7: return given.depthWhere(holder.depth);
                default: return BAD;
            }
        }
    }

    private static final class Box {
        final int length;
        final int height;
        final int depth;
        final ArrayList<Placed> contents;
        private final Fit fit;

        private Box(int length, int height, int depth, Fit fit, ArrayList<Placed> contents) {
            this.length = length;
            this.height = height;
            this.depth = depth;
            this.fit = fit;
            this.contents = contents;
        }

        static Box bare(int length, int height, int depth) {
            return new Box(length, height, depth, new Fit(0, 0, NO_ORDER, 0), new ArrayList<Placed>());
        }

        static Box packed(ArrayList<Item> items, int length) {
            int height = 0;
            int depth = 0;
            for (int i = 0; i < items.size(); i++) {
                // A running rule, asked with 0, does not count.
                height = Math.max(height, items.get(i).heightWhere(0));
                depth = Math.max(depth, items.get(i).depthWhere(0));
            }
            Fit fit = Fit.of(items, length);
            return new Box(length, height, depth, fit, placed(items, fit));
        }

        private static ArrayList<Placed> placed(ArrayList<Item> items, Fit fit) {
            ArrayList<Placed> row = new ArrayList<Placed>();
            int place = 0;
            int before = 0;
            for (int i = 0; i < items.size(); i++) {
                Item item = items.get(i);
                int with = before + fit.givingOf(item);
                int length = item.ownLength + fit.change(before, with);
                row.add(new Placed(item, place, length));
                place += length;
                before = with;
            }
            return row;
        }

        int answer(int what) {
            switch (what) {
                case 0: return length;
                case 1: return height;
                case 2: return depth;
                case 3: return contents.size();
                case 4: return fit.badness();
                case 5: return fit.over();
                case 6: return fit.order;
                case 7: return fit.ownLength;
                default: return BAD;
            }
        }
    }
}
