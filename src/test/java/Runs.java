import java.util.ArrayList;
import java.util.List;

/**
 * Runs of calls on new objects, written as text: "box 7 4 2; kern 1 x39; told 0 1", where x39 makes the call 39 times.
 * No object is asked more than the 512 calls that the document promises.
 */
final class Runs {
    private static final int MOST_CALLS = 512;
    private static final int MOST_ITEMS = 40;
    private static final int MOST_BOXES = 60;

    private final BoxGlue x = new BoxGlue();
    private int calls = 0;

    private Runs(String run) {
        all(run);
    }

    /** What the last call of a run answers. */
    static long last(String run) {
        return new Runs("").all(run);
    }

    /** The answers of a call with '#' for 0, 1, 2 .. up to a bound, behind a run. */
    static int[] each(String run, String call, int bound) {
        Runs asked = new Runs(run);
        int[] answers = new int[bound];
        for (int i = 0; i < bound; i++) {
            answers[i] = (int) asked.all(call.replace("#", "" + i));
        }
        return answers;
    }

    /** All that can be seen of an object behind a run: its boxes, its list, and what it still has room for. */
    static String seen(String run) {
        StringBuilder text = new StringBuilder();
        long boxes = last(run + "; boxes");
        for (int box = 0; box < boxes; box++) {
            text.append(new Runs(run).seenOfBox(box)).append('\n');
        }
        text.append(new Runs(run).seenOfList()).append('\n');
        // The greatest and the least length show how the glue stretches, shrinks and is filled.
        for (String pack : new String[] {"pack 1000000", "pack 0", "pack -1"}) {
            Runs packed = new Runs(run);
            text.append(pack).append(packed.seenOfBox((int) packed.all(pack))).append('\n');
        }
        return text.append(new Runs(run).roomForBoxes()).append(new Runs(run).roomForItems()).toString();
    }

    private List<Long> seenOfBox(int box) {
        List<Long> answers = new ArrayList<>();
        answers.add((long) box);
        long items = all("told " + box + " 3");
        for (int what = 0; what < 8; what++) {
            answers.add(all("told " + box + " " + what));
            for (int i = 0; i < items; i++) {
                answers.add(all("item " + box + " " + i + " " + what));
            }
        }
        return answers;
    }

    private List<Long> seenOfList() {
        List<Long> answers = new ArrayList<>(List.of(all("size"), all("boxes")));
        for (int i = 0; i <= MOST_ITEMS; i++) {
            answers.add(all("natural"));
            answers.add(all("drop"));
        }
        return answers;
    }

    private String roomForBoxes() {
        int room = 0;
        while (room <= MOST_BOXES && all("box 1 1 1") >= 0) {
            room++;
        }
        return "room for boxes: " + room;
    }

    /** A box of 40 items is packed again and again, then what is left is found by dropping one item after the other. */
    private String roomForItems() {
        all("drop x40; kern 1 x40");
        int room = 0;
        long box = all("pack 0");
        while (box >= 0 && room <= 8 * MOST_ITEMS) {
            room += MOST_ITEMS;
            all("unpack " + box);
            box = all("pack 0");
        }
        while (box < 0 && all("drop") >= 0) {
            box = all("pack 0");
        }
        return ", room for items: " + room + " and " + all("told " + box + " 3");
    }

    private long all(String run) {
        long answer = 0;
        for (String call : run.split(";")) {
            if (!call.isBlank()) {
                answer = repeated(call.trim().split(" +"));
            }
        }
        return answer;
    }

    private long repeated(String[] words) {
        int last = words.length - 1;
        boolean often = words[last].startsWith("x");
        int times = often ? Integer.parseInt(words[last].substring(1)) : 1;
        int[] numbers = new int[often ? last - 1 : last];
        for (int i = 0; i < numbers.length; i++) {
            numbers[i] = Integer.parseInt(words[i + 1]);
        }
        long answer = 0;
        for (int i = 0; i < times; i++) {
            answer = call(words[0], numbers);
        }
        return answer;
    }

    private long call(String name, int[] n) {
        calls++;
        if (calls > MOST_CALLS) {
            throw new IllegalStateException("a test makes more than " + MOST_CALLS + " calls");
        }
        switch (name) {
            case "box": return x.box(n[0], n[1], n[2]);
            case "put": return x.put(n[0], n[1]);
            case "glue": return x.glue(n[0], n[1], n[2], n[3], n[4]);
            case "kern": return x.kern(n[0]);
            case "rule": return x.rule(n[0], n[1], n[2]);
            case "leaders": return x.leaders(n[0], n[1]);
            case "pack": return x.pack(n[0]);
            case "unpack": return x.unpack(n[0]);
            case "told": return x.told(n[0], n[1]);
            case "item": return x.item(n[0], n[1], n[2]);
            case "size": return x.size();
            case "natural": return x.natural();
            case "drop": return x.drop();
            case "boxes": return x.boxes();
            default: throw new IllegalArgumentException("no call " + name);
        }
    }
}
