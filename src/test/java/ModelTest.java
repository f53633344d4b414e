import java.math.BigInteger;
import java.util.ArrayList;
import java.util.List;

/**
 * Runs of mixed calls as long as the document allows, each answer held against a second telling of the document:
 * great numbers without bounds, and leaders by trying every place, so that no shortcut of the class is shared.
 */
public final class ModelTest {
    private static final int RUNS = 8000;
    private static final int CALLS = 512;

    private record Given(int sort, long length, int height, int depth,
                         int stretch, int order, int shrink, int order2, int kind, int copyLength) { }

    private record Stood(Given given, long length, long place) { }

    private record Made(long length, long height, long depth, List<Stood> items,
                        long badness, long over, long order, long natural) { }

    private record Leaders(long count, long first, long step) { }

    private static final class Model {
        final List<Given> list = new ArrayList<>();
        final List<Made> made = new ArrayList<>();

        private boolean within(long value, long least, long most) {
            return least <= value && value <= most;
        }

        private boolean known(int box) {
            return within(box, 0, made.size() - 1);
        }

        long box(int length, int height, int depth) {
            if (!within(length, 0, 100000) || !within(height, 0, 100000) || !within(depth, 0, 100000)) {
                return -1;
            }
            if (made.size() == 60) {
                return -2;
            }
            made.add(new Made(length, height, depth, List.of(), 0, 0, -1, 0));
            return made.size() - 1;
        }

        private long add(boolean right, Given given) {
            if (!right) {
                return -1;
            }
            if (list.size() == 40) {
                return -2;
            }
            list.add(given);
            return list.size();
        }

        long put(int box, int shift) {
            if (!known(box)) {
                return -1;
            }
            Made of = made.get(box);
            return add(within(shift, -100000, 100000), new Given(1, of.length,
                (int) of.height - shift, (int) of.depth + shift, 0, 0, 0, 0, 0, 0));
        }

        long glue(int natural, int stretch, int order, int shrink, int order2) {
            boolean right = within(natural, -100000, 100000) && within(stretch, 0, 1000)
                && within(shrink, 0, 1000) && within(order, 0, 3) && within(order2, 0, 3);
            return add(right, new Given(2, natural, 0, 0, stretch, order, shrink, order2, 0, 0));
        }

        long kern(int length) {
            return add(within(length, -100000, 100000), new Given(3, length, 0, 0, 0, 0, 0, 0, 0, 0));
        }

        long rule(int length, int height, int depth) {
            boolean right = within(length, 0, 100000)
                && (height == -1000000 || within(height, 0, 100000))
                && (depth == -1000000 || within(depth, 0, 100000));
            return add(right, new Given(4, length, height, depth, 0, 0, 0, 0, 0, 0));
        }

        long leaders(int kind, int box) {
            if (!within(kind, 1, 3) || !known(box)) {
                return -1;
            }
            if (list.isEmpty() || list.get(list.size() - 1).sort != 2) {
                return -3;
            }
            Given old = list.remove(list.size() - 1);
            list.add(new Given(2, old.length, 0, 0, old.stretch, old.order, old.shrink, old.order2,
                kind, (int) made.get(box).length));
            return 1;
        }

        long natural() {
            return list.stream().mapToLong(Given::length).sum();
        }

        long drop() {
            if (list.isEmpty()) {
                return -3;
            }
            list.remove(list.size() - 1);
            return list.size();
        }

        long unpack(int box) {
            if (!known(box)) {
                return -1;
            }
            List<Stood> items = made.get(box).items;
            if (list.size() + items.size() > 40) {
                return -2;
            }
            items.forEach(stood -> list.add(stood.given));
            return list.size();
        }

        long pack(int to) {
            long natural = natural();
            if (!within(to, -1, 1000000) || to == -1 && natural > 1000000) {
                return -1;
            }
            int kept = made.stream().mapToInt(one -> one.items.size()).sum();
            if (made.size() == 60 || kept + list.size() > 300) {
                return -2;
            }
            long length = to >= 0 ? to : natural < 0 ? 0 : natural;
            made.add(packed(length, natural));
            list.clear();
            return made.size() - 1;
        }

        private Made packed(long length, long natural) {
            long height = 0;
            long depth = 0;
            for (Given given : list) {
                if (given.sort == 1 || given.sort == 4 && given.height != -1000000) {
                    height = Math.max(height, given.height);
                }
                if (given.sort == 1 || given.sort == 4 && given.depth != -1000000) {
                    depth = Math.max(depth, given.depth);
                }
            }
            long x = length - natural;
            return x > 0 ? stretched(length, height, depth, natural, x)
                : x < 0 ? shrunk(length, height, depth, natural, -x)
                : new Made(length, height, depth, standing(new long[list.size()]), 0, 0, -1, natural);
        }

        private Made stretched(long length, long height, long depth, long natural, long x) {
            long[] by = new long[4];
            list.forEach(given -> by[given.order] += given.stretch);
            int order = greatest(by);
            int[] parts = list.stream().mapToInt(g -> g.order == order ? g.stretch : 0).toArray();
            long badness = order < 0 ? 10000 : order > 0 ? 0 : Math.min(10000, cubes(x, by[0]));
            List<Stood> items = standing(shares(parts, x, 1));
            return new Made(length, height, depth, items, badness, 0, order, natural);
        }

        private Made shrunk(long length, long height, long depth, long natural, long less) {
            long[] by = new long[4];
            list.forEach(given -> by[given.order2] += given.shrink);
            int order = greatest(by);
            int[] parts = list.stream().mapToInt(g -> g.order2 == order ? g.shrink : 0).toArray();
            long over = order > 0 ? 0 : Math.max(0, less - by[0]);
            long badness = order > 0 ? 0 : over > 0 ? 1000000 : cubes(less, by[0]);
            List<Stood> items = standing(shares(parts, less - over, -1));
            return new Made(length, height, depth, items, badness, over, order, natural);
        }

        private int greatest(long[] by) {
            int greatest = -1;
            for (int order = 0; order < 4; order++) {
                greatest = by[order] != 0 ? order : greatest;
            }
            return greatest;
        }

        private long cubes(long x, long sum) {
            return BigInteger.valueOf(x).pow(3).multiply(BigInteger.valueOf(100))
                .divide(BigInteger.valueOf(sum).pow(3)).min(BigInteger.valueOf(1000000)).longValueExact();
        }

        private long[] shares(int[] parts, long x, int sign) {
            BigInteger sum = BigInteger.ZERO;
            for (int part : parts) {
                sum = sum.add(BigInteger.valueOf(part));
            }
            long[] got = new long[parts.length];
            BigInteger upTo = BigInteger.ZERO;
            for (int i = 0; i < parts.length && sum.signum() > 0; i++) {
                BigInteger without = upTo;
                upTo = upTo.add(BigInteger.valueOf(parts[i]));
                BigInteger great = BigInteger.valueOf(x);
                got[i] = sign * great.multiply(upTo).divide(sum)
                    .subtract(great.multiply(without).divide(sum)).longValueExact();
            }
            return got;
        }

        private List<Stood> standing(long[] got) {
            List<Stood> items = new ArrayList<>();
            long place = 0;
            for (int i = 0; i < got.length; i++) {
                long length = list.get(i).length + got[i];
                items.add(new Stood(list.get(i), length, place));
                place += length;
            }
            return items;
        }

        long told(int box, int what) {
            if (!known(box) || !within(what, 0, 7)) {
                return -1;
            }
            Made of = made.get(box);
            return new long[] {of.length, of.height, of.depth, of.items.size(), of.badness, of.over,
                of.order, of.natural}[what];
        }

        long item(int box, int i, int what) {
            if (!known(box) || !within(i, 0, made.get(box).items.size() - 1) || !within(what, 0, 7)) {
                return -1;
            }
            Made of = made.get(box);
            Stood at = of.items.get(i);
            Leaders drawn = what >= 3 && what <= 5 ? drawn(at) : new Leaders(0, 0, 0);
            long height = at.given.height == -1000000 && at.given.sort == 4 ? of.height : at.given.height;
            long depth = at.given.depth == -1000000 && at.given.sort == 4 ? of.depth : at.given.depth;
            return new long[] {at.given.sort, at.length, at.place, drawn.count, drawn.first, drawn.step,
                height, depth}[what];
        }

        private Leaders drawn(Stood at) {
            long b = at.given.copyLength;
            long g = at.length;
            if (at.given.kind == 0 || b == 0 || g < b) {
                return new Leaders(0, 0, 0);
            }
            long n = g / b;
            long rest = g - n * b;
            switch (at.given.kind) {
                case 1: return aligned(at.place, at.place + g, b);
                case 2: return new Leaders(n, at.place + rest / 2, b);
                default: return new Leaders(n, at.place + rest / (n + 1), b + rest / (n + 1));
            }
        }

        private Leaders aligned(long from, long to, long b) {
            long first = from;
            while (first % b != 0) {
                first++;
            }
            long count = 0;
            for (long place = first; place + b <= to; place += b) {
                count++;
            }
            return count == 0 ? new Leaders(0, 0, 0) : new Leaders(count, first, b);
        }
    }

    private long seed;

    private int any(int bound) {
        seed = seed * 6364136223846793005L + 1442695040888963407L;
        return (int) ((seed >>> 33) % bound);
    }

    private int length() {
        switch (any(12)) {
            case 0: return 100000 - any(3) + 1;
            case 1: return -100000 + any(3) - 1;
            case 2: return -any(60);
            case 3: return any(5000);
            default: return any(60);
        }
    }

    private int extent() {
        switch (any(30)) {
            case 0: return 100000 + any(2);
            case 1: return -1;
            case 2: return any(90000);
            default: return any(25);
        }
    }

    private int extentOrRunning() {
        return any(3) == 0 ? BoxGlue.RUNNING : extent();
    }

    private int giving() {
        switch (any(14)) {
            case 0: return 1000 + any(2);
            case 1: return any(40) == 0 ? -1 : 999;
            case 2: case 3: case 4: return 0;
            default: return any(30);
        }
    }

    private int order(int usual) {
        return any(40) == 0 ? any(2) * 5 - 1 : any(3) == 0 ? any(4) : usual;
    }

    private int number(int count) {
        return any(25) == 0 ? (any(2) == 0 ? -1 : count) : any(count + 1);
    }

    private int target(long natural) {
        switch (any(12)) {
            case 0: return -1 - any(2);
            case 1: return 1000000 + any(2);
            case 2: return any(3000);
            case 3: case 4: return -1;
            default: return (int) Math.max(-1, natural + any(200) - 100);
        }
    }

    private void call(BoxGlue x, Model model, Checks checks, int usualOrder) {
        int box = number(model.made.size());
        int a = length();
        int b = extent();
        int c = extentOrRunning();
        int d = extentOrRunning();
        int kind = any(20) == 0 ? any(2) * 4 : 1 + any(3);
        switch (any(24)) {
            case 0: checks.due("box", x.box(b, extentOf(c), extentOf(d)), model.box(b, extentOf(c), extentOf(d)));
                break;
            case 1: case 2: case 3: checks.due("put", x.put(box, a), model.put(box, a));
                break;
            case 4: case 5: checks.due("kern", x.kern(a), model.kern(a));
                break;
            case 6: case 7: checks.due("rule", x.rule(b, c, d), model.rule(b, c, d));
                break;
            case 8: case 9: checks.due("leaders", x.leaders(kind, box), model.leaders(kind, box));
                break;
            case 10: case 11: int to = target(model.natural());
                checks.due("pack(" + to + ")", x.pack(to), model.pack(to));
                break;
            case 12: checks.due("unpack", x.unpack(box), model.unpack(box));
                break;
            case 13: checks.due("drop", x.drop(), model.drop());
                break;
            default: int stretch = giving();
                int shrink = giving();
                int order = order(usualOrder);
                int order2 = order(usualOrder);
                checks.due("glue", x.glue(a, stretch, order, shrink, order2),
                    model.glue(a, stretch, order, shrink, order2));
                checks.due("leaders", x.leaders(kind, box), model.leaders(kind, box));
        }
        if (any(8) == 0) {
            lookAtList(x, model, checks);
        }
    }

    private static int extentOf(int extent) {
        return extent == BoxGlue.RUNNING ? 3 : extent;
    }

    /** Boxes never change, so it is enough to look at them when all are made. */
    private void look(BoxGlue x, Model model, Checks checks) {
        int box = number(model.made.size());
        int i = any(30) == 0 ? -1 : any((int) Math.max(1, model.told(box, 3) + 1));
        int what = any(20) == 0 ? any(2) * 9 - 1 : any(8);
        if (any(4) == 0) {
            checks.due("told(" + box + ", " + what + ")", x.told(box, what), model.told(box, what));
        } else {
            checks.due("item(" + box + ", " + i + ", " + what + ")",
                x.item(box, i, what), model.item(box, i, what));
        }
    }

    private void lookAtList(BoxGlue x, Model model, Checks checks) {
        checks.due("size", x.size(), model.list.size());
        checks.due("natural", x.natural(), model.natural());
        checks.due("boxes", x.boxes(), model.made.size());
    }

    private void run(int run, Checks checks) {
        seed = run;
        checks.about("run " + run);
        BoxGlue x = new BoxGlue();
        Model model = new Model();
        int building = 40 + any(400);
        int start = checks.asked();
        while (checks.asked() - start < building) {
            call(x, model, checks, run % 4);
        }
        lookAtList(x, model, checks);
        while (checks.asked() - start < CALLS) {
            look(x, model, checks);
        }
    }

    public static void main(String[] args) {
        ModelTest test = new ModelTest();
        Checks checks = new Checks();
        for (int run = 0; run < RUNS && !checks.anyWrong(); run++) {
            test.run(run, checks);
        }
        checks.end();
    }
}
