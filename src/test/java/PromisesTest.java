/** For each promise: ordinary inputs, the edges that the document names, and wrong inputs. */
public final class PromisesTest {
    private static final int BAD = BoxGlue.BAD;
    private static final int FULL = BoxGlue.FULL;
    private static final int NO = BoxGlue.NO;
    private static final int RUNNING = BoxGlue.RUNNING;
    private static final int[] WRONG_LENGTHS = {-100001, 100001, Integer.MIN_VALUE, Integer.MAX_VALUE};
    private static final int[] WRONG_EXTENTS = {-1, 100001, Integer.MIN_VALUE, Integer.MAX_VALUE};

    private final Checks checks = new Checks();

    public static void main(String[] args) {
        new PromisesTest().all();
    }

    private void all() {
        promise1NewObject();
        promise2Box();
        promise3Put();
        promise4Glue();
        promise5Kern();
        promise6Rule();
        promise7Leaders();
        promise7LeadersAligned();
        promise7LeadersCentredAndSpread();
        promise8PackAnswers();
        promise8PackFull();
        promise8PackHeightAndDepth();
        promise8PackStretch();
        promise8PackStretchBadness();
        promise8PackShrink();
        promise8PackOwnLengthBelowZero();
        promise9Unpack();
        promise9UnpackKeepsTheBox();
        promise10Told();
        promise11Item();
        promise12To14SizeNaturalDrop();
        promise15Boxes();
        checks.end();
    }

    private static int[] told(BoxGlue x, int box) {
        int[] answers = new int[8];
        for (int what = 0; what < 8; what++) {
            answers[what] = x.told(box, what);
        }
        return answers;
    }

    private static int[] item(BoxGlue x, int box, int i) {
        int[] answers = new int[8];
        for (int what = 0; what < 8; what++) {
            answers[what] = x.item(box, i, what);
        }
        return answers;
    }

    /** One answer of every item of a box. */
    private static int[] each(BoxGlue x, int box, int what) {
        int[] answers = new int[x.told(box, 3)];
        for (int i = 0; i < answers.length; i++) {
            answers[i] = x.item(box, i, what);
        }
        return answers;
    }

    private static BoxGlue withKerns(int count) {
        BoxGlue x = new BoxGlue();
        addKerns(x, count);
        return x;
    }

    private static void addKerns(BoxGlue x, int count) {
        for (int i = 0; i < count; i++) {
            x.kern(1);
        }
    }

    private void promise1NewObject() {
        checks.about("promise 1");
        BoxGlue x = new BoxGlue();
        checks.due("size", x.size(), 0);
        checks.due("boxes", x.boxes(), 0);
        checks.due("natural", x.natural(), 0);
        checks.due("told", x.told(0, 0), BAD);
        x.kern(5);
        x.box(1, 1, 1);
        BoxGlue other = new BoxGlue();
        checks.due("another's size", other.size(), 0);
        checks.due("another's boxes", other.boxes(), 0);
    }

    private void promise2Box() {
        checks.about("promise 2");
        BoxGlue x = new BoxGlue();
        for (int wrong : WRONG_EXTENTS) {
            checks.due("box with length " + wrong, x.box(wrong, 0, 0), BAD);
            checks.due("box with height " + wrong, x.box(0, wrong, 0), BAD);
            checks.due("box with depth " + wrong, x.box(0, 0, wrong), BAD);
        }
        checks.due("box running", x.box(0, RUNNING, 0), BAD);
        checks.due("boxes", x.boxes(), 0);
        checks.due("box, least", x.box(0, 0, 0), 0);
        checks.due("box, greatest", x.box(100000, 100000, 100000), 1);
        checks.dueAll("told", told(x, 1), 100000, 100000, 100000, 0, 0, 0, -1, 0);
        checks.due("size", x.size(), 0);
        for (int number = 2; number < 60; number++) {
            checks.due("box", x.box(number, 2, 3), number);
        }
        checks.due("box 60", x.box(1, 2, 3), FULL);
        checks.due("box 60, wrong", x.box(-1, 2, 3), BAD);
        checks.due("boxes", x.boxes(), 60);
    }

    private void promise3Put() {
        checks.about("promise 3");
        BoxGlue x = new BoxGlue();
        checks.due("put without boxes", x.put(0, 0), BAD);
        x.box(30, 10, 4);
        checks.due("put -1", x.put(-1, 0), BAD);
        checks.due("put 1", x.put(1, 0), BAD);
        checks.due("put MIN", x.put(Integer.MIN_VALUE, 0), BAD);
        checks.due("put MAX", x.put(Integer.MAX_VALUE, 0), BAD);
        for (int wrong : WRONG_LENGTHS) {
            checks.due("put shifted by " + wrong, x.put(0, wrong), BAD);
        }
        checks.due("size", x.size(), 0);
        checks.due("put", x.put(0, 3), 1);
        checks.due("put up", x.put(0, -100000), 2);
        checks.due("put down", x.put(0, 100000), 3);
        x.pack(-1);
        checks.dueAll("item", item(x, 1, 0), 1, 30, 0, 0, 0, 0, 7, 7);
        checks.dueAll("item up", item(x, 1, 1), 1, 30, 30, 0, 0, 0, 100010, -99996);
        checks.dueAll("item down", item(x, 1, 2), 1, 30, 60, 0, 0, 0, -99990, 100004);
        checks.due("put a packed one", x.put(1, 1), 1);
        checks.due("natural", x.natural(), 90);
        addKerns(x, 39);
        checks.due("put 41st", x.put(0, 0), FULL);
        checks.due("put 41st, wrong", x.put(7, 0), BAD);
        checks.due("size", x.size(), 40);
    }

    private void promise4Glue() {
        checks.about("promise 4");
        BoxGlue x = new BoxGlue();
        for (int wrong : WRONG_LENGTHS) {
            checks.due("glue of " + wrong, x.glue(wrong, 0, 0, 0, 0), BAD);
        }
        for (int wrong : new int[] {-1, 1001, Integer.MIN_VALUE, Integer.MAX_VALUE}) {
            checks.due("glue stretch " + wrong, x.glue(0, wrong, 0, 0, 0), BAD);
            checks.due("glue shrink " + wrong, x.glue(0, 0, 0, wrong, 0), BAD);
        }
        for (int wrong : new int[] {-1, 4, Integer.MIN_VALUE, Integer.MAX_VALUE}) {
            checks.due("glue order " + wrong, x.glue(0, 1, wrong, 0, 0), BAD);
            checks.due("glue order2 " + wrong, x.glue(0, 0, 0, 1, wrong), BAD);
        }
        checks.due("size", x.size(), 0);
        checks.due("glue, least", x.glue(-100000, 0, 0, 0, 0), 1);
        checks.due("glue, greatest", x.glue(100000, 1000, 3, 1000, 3), 2);
        checks.due("glue", x.glue(7, 2, 1, 3, 2), 3);
        checks.due("natural", x.natural(), 7);
        addKerns(x, 37);
        checks.due("glue 41st", x.glue(0, 0, 0, 0, 0), FULL);
        checks.due("glue 41st, wrong", x.glue(0, 0, 0, 0, 4), BAD);
    }

    private void promise5Kern() {
        checks.about("promise 5");
        BoxGlue x = new BoxGlue();
        for (int wrong : WRONG_LENGTHS) {
            checks.due("kern " + wrong, x.kern(wrong), BAD);
        }
        checks.due("kern, least", x.kern(-100000), 1);
        checks.due("kern, greatest", x.kern(100000), 2);
        checks.due("kern", x.kern(-5), 3);
        checks.due("natural", x.natural(), -5);
        x.pack(100);
        checks.dueAll("a kern gives nothing", item(x, 0, 2), 3, -5, 0, 0, 0, 0, 0, 0);
        addKerns(x, 40);
        checks.due("kern 41st", x.kern(0), FULL);
        checks.due("kern 41st, wrong", x.kern(100001), BAD);
        checks.due("size", x.size(), 40);
    }

    private void promise6Rule() {
        checks.about("promise 6");
        BoxGlue x = new BoxGlue();
        for (int wrong : WRONG_EXTENTS) {
            checks.due("rule of " + wrong, x.rule(wrong, 0, 0), BAD);
            checks.due("rule with height " + wrong, x.rule(0, wrong, 0), BAD);
            checks.due("rule with depth " + wrong, x.rule(0, 0, wrong), BAD);
        }
        checks.due("rule with a running length", x.rule(RUNNING, 0, 0), BAD);
        checks.due("rule nearly running", x.rule(1, RUNNING + 1, RUNNING - 1), BAD);
        checks.due("rule, least", x.rule(0, 0, 0), 1);
        checks.due("rule, greatest", x.rule(100000, 90000, 80000), 2);
        checks.due("rule running", x.rule(12, RUNNING, RUNNING), 3);
        checks.due("natural", x.natural(), 100012);
        x.pack(-1);
        checks.dueAll("told rule", item(x, 0, 0), 4, 0, 0, 0, 0, 0, 0, 0);
        checks.dueAll("greatest rule", item(x, 0, 1), 4, 100000, 0, 0, 0, 0, 90000, 80000);
        checks.dueAll("running rule", item(x, 0, 2), 4, 12, 100000, 0, 0, 0, 90000, 80000);
        addKerns(x, 40);
        checks.due("rule 41st", x.rule(0, 0, 0), FULL);
        checks.due("rule 41st, wrong", x.rule(0, -2, 0), BAD);
    }

    private void promise7Leaders() {
        checks.about("promise 7");
        BoxGlue x = new BoxGlue();
        checks.due("leaders without box and item", x.leaders(1, 0), BAD);
        x.box(7, 1, 1);
        checks.due("leaders without item", x.leaders(1, 0), NO);
        checks.due("leaders of kind 0", x.leaders(0, 0), BAD);
        checks.due("leaders of kind 4", x.leaders(4, 0), BAD);
        x.glue(70, 0, 0, 0, 0);
        checks.due("leaders of kind MIN", x.leaders(Integer.MIN_VALUE, 0), BAD);
        checks.due("leaders of box -1", x.leaders(1, -1), BAD);
        checks.due("leaders of box 1", x.leaders(1, 1), BAD);
        checks.due("leaders", x.leaders(2, 0), 1);
        x.kern(1);
        checks.due("leaders in a kern", x.leaders(2, 0), NO);
        x.rule(1, 1, 1);
        checks.due("leaders in a rule", x.leaders(2, 0), NO);
        x.put(0, 0);
        checks.due("leaders in a box", x.leaders(2, 0), NO);
        checks.due("size", x.size(), 4);
        x.box(10, 0, 0);
        x.glue(70, 0, 0, 0, 0);
        x.leaders(2, 0);
        checks.due("other leaders", x.leaders(3, 1), 1);
        x.glue(70, 0, 0, 0, 0);
        x.leaders(2, 0);
        x.drop();
        x.glue(70, 0, 0, 0, 0);
        x.pack(-1);
        checks.dueAll("how many", each(x, 2, 3), 10, 0, 0, 0, 7, 0);
        checks.due("height of leaders does not count", x.told(2, 1), 1);
    }

    /** A glue of a length behind a kern, with leaders; answers what item tells of them. */
    private static int[] row(int kind, int boxLength, int kern, int length) {
        BoxGlue x = new BoxGlue();
        x.box(boxLength, 3, 3);
        x.kern(kern);
        x.glue(length, 0, 0, 0, 0);
        x.leaders(kind, 0);
        x.pack(-1);
        return new int[] {x.item(1, 1, 3), x.item(1, 1, 4), x.item(1, 1, 5)};
    }

    private void promise7LeadersAligned() {
        checks.about("leaders of kind 1");
        checks.dueAll("ordinary", row(1, 7, 3, 30), 3, 7, 7);
        checks.dueAll("from a place", row(1, 7, 14, 21), 3, 14, 7);
        checks.dueAll("just one", row(1, 7, 14, 7), 1, 14, 7);
        checks.dueAll("long enough, but none whole", row(1, 7, 3, 10), 0, 0, 0);
        checks.dueAll("one whole, just", row(1, 7, 3, 11), 1, 7, 7);
        checks.dueAll("glue too short", row(1, 7, 7, 6), 0, 0, 0);
        checks.dueAll("glue below 0", row(1, 7, 700, -70), 0, 0, 0);
        checks.dueAll("box of 0", row(1, 0, 3, 30), 0, 0, 0);
        checks.dueAll("places before the beginning", row(1, 7, -20, 30), 3, -14, 7);
        checks.dueAll("from a place before the beginning", row(1, 7, -14, 21), 3, -14, 7);
        checks.dueAll("whole row before the beginning", row(1, 10, -100, 35), 3, -100, 10);
    }

    private void promise7LeadersCentredAndSpread() {
        checks.about("leaders of kind 2");
        checks.dueAll("ordinary", row(2, 7, 3, 30), 4, 4, 7);
        checks.dueAll("odd rest", row(2, 7, 3, 33), 4, 5, 7);
        checks.dueAll("no rest", row(2, 7, 3, 28), 4, 3, 7);
        checks.dueAll("just one", row(2, 7, 3, 7), 1, 3, 7);
        checks.dueAll("too short", row(2, 7, 3, 6), 0, 0, 0);
        checks.dueAll("box of 0", row(2, 0, 3, 30), 0, 0, 0);
        checks.dueAll("before the beginning", row(2, 7, -20, 33), 4, -18, 7);
        checks.dueAll("glue below 0", row(2, 7, 700, -70), 0, 0, 0);
        checks.about("leaders of kind 3");
        checks.dueAll("ordinary", row(3, 7, 3, 30), 4, 3, 7);
        checks.dueAll("gaps", row(3, 7, 3, 33), 4, 4, 8);
        checks.dueAll("greater gaps", row(3, 10, 5, 29), 2, 8, 13);
        checks.dueAll("one copy", row(3, 10, 5, 19), 1, 9, 14);
        checks.dueAll("too short", row(3, 7, 3, 6), 0, 0, 0);
        checks.dueAll("box of 0", row(3, 0, 3, 30), 0, 0, 0);
        checks.dueAll("before the beginning", row(3, 10, -50, 29), 2, -47, 13);
        checks.dueAll("glue below 0", row(3, 7, 700, -70), 0, 0, 0);
    }

    private void promise8PackAnswers() {
        checks.about("promise 8");
        BoxGlue x = withKerns(2);
        for (int wrong : new int[] {-2, 1000001, Integer.MIN_VALUE, Integer.MAX_VALUE}) {
            checks.due("pack to " + wrong, x.pack(wrong), BAD);
        }
        checks.due("the list stays", x.size(), 2);
        checks.due("pack", x.pack(1000000), 0);
        checks.due("the list is empty", x.size(), 0);
        checks.due("the list is empty", x.natural(), 0);
        checks.due("pack nothing", x.pack(-1), 1);
        checks.dueAll("nothing", told(x, 1), 0, 0, 0, 0, 0, 0, -1, 0);
        x.put(0, 0);
        checks.due("pack to 1000000 by itself", x.pack(-1), 2);
        checks.due("its length", x.told(2, 0), 1000000);
        x.put(0, 0);
        x.kern(1);
        checks.due("pack to 1000001 by itself", x.pack(-1), BAD);
        checks.due("the list stays", x.size(), 2);
        checks.due("no box comes", x.boxes(), 3);
        checks.due("pack it to 0", x.pack(0), 3);
        checks.dueAll("packed to 0", told(x, 3), 0, 0, 0, 2, 1000000, 1000001, -1, 1000001);
    }

    private void promise8PackFull() {
        checks.about("promise 8, full");
        BoxGlue x = new BoxGlue();
        for (int number = 0; number < 7; number++) {
            addKerns(x, 40);
            x.pack(-1);
        }
        addKerns(x, 21);
        checks.due("pack to 301 items", x.pack(-1), FULL);
        checks.due("pack to 301 items, wrong", x.pack(-2), BAD);
        checks.due("the list stays", x.size(), 21);
        x.drop();
        checks.due("pack to 300 items", x.pack(-1), 7);
        checks.due("pack no more items", x.pack(-1), 8);
        x.kern(1);
        checks.due("pack one more", x.pack(-1), FULL);

        BoxGlue y = new BoxGlue();
        for (int number = 0; number < 60; number++) {
            y.box(100000, 0, 0);
        }
        checks.due("pack box 60", y.pack(0), FULL);
        for (int i = 0; i < 11; i++) {
            y.put(i, 0);
        }
        checks.due("pack box 60, too long", y.pack(-1), BAD);
        checks.due("pack box 60", y.pack(0), FULL);
        checks.due("the list stays", y.size(), 11);
    }

    private void promise8PackHeightAndDepth() {
        checks.about("promise 8, height and depth");
        BoxGlue x = new BoxGlue();
        x.box(1, 10, 4);
        x.put(0, 50);
        x.pack(-1);
        checks.dueAll("shifted far down", told(x, 1), 1, 0, 54, 1, 0, 0, -1, 1);
        x.put(0, -50);
        x.pack(-1);
        checks.dueAll("shifted far up", told(x, 2), 1, 60, 0, 1, 0, 0, -1, 1);
        x.put(0, 0);
        x.rule(1, 11, RUNNING);
        x.rule(1, RUNNING, 3);
        x.pack(-1);
        checks.dueAll("rules", told(x, 3), 3, 11, 4, 3, 0, 0, -1, 3);
        checks.dueAll("heights", each(x, 3, 6), 10, 11, 11);
        checks.dueAll("depths", each(x, 3, 7), 4, 4, 3);
        x.rule(1, RUNNING, RUNNING);
        x.pack(-1);
        checks.dueAll("running rule alone", told(x, 4), 1, 0, 0, 1, 0, 0, -1, 1);
        x.put(1, 6);
        x.put(2, -6);
        x.pack(-1);
        checks.dueAll("boxes in boxes", told(x, 5), 2, 66, 60, 2, 0, 0, -1, 2);
    }

    private void promise8PackStretch() {
        checks.about("promise 8, stretch");
        BoxGlue x = new BoxGlue();
        x.glue(10, 1, 0, 0, 0);
        x.kern(2);
        x.glue(20, 1, 0, 9, 3);
        x.glue(30, 1, 0, 0, 0);
        x.pack(72);
        checks.dueAll("shared out", told(x, 0), 72, 0, 0, 4, 3703, 0, 0, 62);
        checks.dueAll("lengths", each(x, 0, 1), 13, 2, 23, 34);
        checks.dueAll("places", each(x, 0, 2), 0, 13, 15, 38);
        for (int order = 1; order <= 3; order++) {
            x.glue(0, 1000, order - 1, 0, 0);
            x.glue(0, 2, order, 0, 0);
            x.glue(0, 0, 3, 0, 0);
            x.glue(0, 1, order, 0, 0);
            x.pack(100);
            checks.dueAll("by order " + order, told(x, order), 100, 0, 0, 4, 0, 0, order, 0);
            checks.dueAll("by order " + order, each(x, order, 1), 0, 66, 0, 34);
        }
        x.kern(3);
        x.glue(4, 0, 3, 1000, 3);
        x.pack(10);
        checks.dueAll("without stretch", told(x, 4), 10, 0, 0, 2, 10000, 0, -1, 7);
        checks.dueAll("without stretch", each(x, 4, 1), 3, 4);
    }

    private static int badness(int naturalLength, int stretch, int shrink, int to) {
        BoxGlue x = new BoxGlue();
        x.glue(naturalLength, stretch, 0, shrink, 0);
        x.pack(to);
        return x.told(0, 4);
    }

    private void promise8PackStretchBadness() {
        checks.about("promise 8, badness");
        checks.due("none", badness(10, 10, 10, 10), 0);
        checks.due("as much as told", badness(0, 10, 0, 10), 100);
        checks.due("little", badness(0, 10, 0, 2), 0);
        checks.due("the rest left off", badness(0, 10, 0, 3), 2);
        checks.due("nearly the greatest", badness(0, 1000, 0, 4641), 9996);
        checks.due("the greatest", badness(0, 1000, 0, 4642), 10000);
        checks.due("beyond", badness(0, 1000, 0, 5000), 10000);
        checks.due("beyond what a long holds", badness(-100000, 1, 0, 1000000), 10000);
        checks.due("a cube that wraps below 0", badness(0, 1, 0, 900000), 10000);
        checks.due("shrunk by all", badness(100, 0, 50, 50), 100);
        checks.due("shrunk by half", badness(100, 0, 50, 75), 12);
        checks.due("shrunk too much", badness(100, 0, 50, 49), 1000000);
        BoxGlue x = new BoxGlue();
        for (int i = 0; i < 40; i++) {
            x.glue(0, 1000, 0, 0, 0);
        }
        x.pack(185663);
        checks.due("many", x.told(0, 4), 9999);
        x.unpack(0);
        x.pack(185664);
        checks.due("many, the greatest", x.told(1, 4), 10000);
        x.unpack(0);
        x.pack(1000000);
        checks.due("many, beyond", x.told(2, 4), 10000);
    }

    private void promise8PackShrink() {
        checks.about("promise 8, shrink");
        BoxGlue x = new BoxGlue();
        x.glue(10, 0, 0, 3, 0);
        x.kern(5);
        x.glue(10, 1000, 3, 4, 0);
        x.pack(20);
        checks.dueAll("shared out", told(x, 0), 20, 0, 0, 3, 36, 0, 0, 25);
        checks.dueAll("lengths", each(x, 0, 1), 8, 5, 7);
        x.unpack(0);
        x.pack(18);
        checks.dueAll("just all", told(x, 1), 18, 0, 0, 3, 100, 0, 0, 25);
        x.unpack(0);
        x.pack(6);
        checks.dueAll("too much", told(x, 2), 6, 0, 0, 3, 1000000, 12, 0, 25);
        checks.dueAll("only the sum is shared out", each(x, 2, 1), 7, 5, 6);
        checks.dueAll("places", each(x, 2, 2), 0, 7, 12);
        x.unpack(0);
        x.glue(0, 0, 0, 1, 2);
        x.glue(0, 0, 0, 2, 2);
        x.pack(5);
        checks.dueAll("by order 2", told(x, 3), 5, 0, 0, 5, 0, 0, 2, 25);
        checks.dueAll("lengths below 0", each(x, 3, 1), 10, 5, 10, -6, -14);
        checks.dueAll("places", each(x, 3, 2), 0, 10, 15, 25, 19);
        x.kern(9);
        x.glue(1, 5, 0, 0, 3);
        x.pack(4);
        checks.dueAll("without shrink", told(x, 4), 4, 0, 0, 2, 1000000, 6, -1, 10);
        checks.dueAll("without shrink", each(x, 4, 1), 9, 1);
    }

    private void promise8PackOwnLengthBelowZero() {
        checks.about("promise 8, natural length below 0");
        BoxGlue x = new BoxGlue();
        x.kern(-30);
        x.pack(-1);
        checks.dueAll("without glue", told(x, 0), 0, 0, 0, 1, 10000, 0, -1, -30);
        x.kern(-30);
        x.glue(0, 30, 0, 0, 0);
        x.pack(-1);
        checks.dueAll("with glue", told(x, 1), 0, 0, 0, 2, 100, 0, 0, -30);
        checks.dueAll("lengths", each(x, 1, 1), -30, 30);
    }

    private void promise9Unpack() {
        checks.about("promise 9");
        BoxGlue x = new BoxGlue();
        checks.due("unpack without boxes", x.unpack(0), BAD);
        x.box(7, 1, 1);
        x.kern(1);
        checks.due("unpack -1", x.unpack(-1), BAD);
        checks.due("unpack 1", x.unpack(1), BAD);
        checks.due("unpack MAX", x.unpack(Integer.MAX_VALUE), BAD);
        checks.due("unpack one with nothing in it", x.unpack(0), 1);
        x.drop();
        x.put(0, 3);
        x.glue(10, 6, 0, 3, 1);
        x.leaders(1, 0);
        x.rule(2, RUNNING, RUNNING);
        x.pack(90);
        x.kern(4);
        checks.due("unpack", x.unpack(1), 4);
        checks.due("natural, as given", x.natural(), 23);
        x.rule(1, 50, 60);
        x.pack(-1);
        checks.dueAll("sorts", each(x, 2, 0), 3, 1, 2, 4, 4);
        checks.dueAll("lengths", each(x, 2, 1), 4, 7, 10, 2, 1);
        checks.dueAll("heights, running still", each(x, 2, 6), 0, -2, 0, 50, 50);
        checks.dueAll("depths, running still", each(x, 2, 7), 0, 4, 0, 60, 60);
        checks.dueAll("leaders stay", each(x, 2, 3), 0, 0, 1, 0, 0);
        addKerns(x, 37);
        checks.due("unpack to 40", x.unpack(1), 40);
        checks.due("unpack nothing to 40", x.unpack(0), 40);
        x.drop();
        x.drop();
        checks.due("unpack to 41", x.unpack(1), FULL);
        checks.due("none comes", x.size(), 38);
        checks.due("unpack to 41, wrong", x.unpack(3), BAD);
    }

    private void promise9UnpackKeepsTheBox() {
        checks.about("promise 9, the box stays");
        BoxGlue x = new BoxGlue();
        x.box(7, 0, 0);
        x.glue(70, 1, 0, 0, 0);
        x.leaders(2, 0);
        x.pack(77);
        x.unpack(1);
        checks.due("other leaders", x.leaders(3, 1), 1);
        x.pack(70);
        checks.due("boxes", x.boxes(), 3);
        checks.dueAll("the first", item(x, 1, 0), 2, 77, 0, 11, 0, 7, 0, 0);
        checks.dueAll("its copy", item(x, 2, 0), 2, 70, 0, 0, 0, 0, 0, 0);
        x.unpack(1);
        x.drop();
        checks.due("its items", x.told(1, 3), 1);
        checks.dueAll("the first", item(x, 1, 0), 2, 77, 0, 11, 0, 7, 0, 0);
    }

    private void promise10Told() {
        checks.about("promise 10");
        BoxGlue x = new BoxGlue();
        checks.due("told without boxes", x.told(0, 0), BAD);
        x.box(30, 10, 4);
        x.put(0, 0);
        x.glue(5, 2, 1, 0, 0);
        x.pack(41);
        for (int box = 0; box < 2; box++) {
            for (int wrong : new int[] {-1, 8, Integer.MIN_VALUE, Integer.MAX_VALUE}) {
                checks.due("told " + wrong, x.told(box, wrong), BAD);
            }
        }
        for (int wrong : new int[] {-1, 2, 60, Integer.MIN_VALUE, Integer.MAX_VALUE}) {
            checks.due("told of " + wrong, x.told(wrong, 0), BAD);
        }
        checks.dueAll("made by box", told(x, 0), 30, 10, 4, 0, 0, 0, -1, 0);
        checks.dueAll("made by pack", told(x, 1), 41, 10, 4, 2, 0, 0, 1, 35);
    }

    private void promise11Item() {
        checks.about("promise 11");
        BoxGlue x = new BoxGlue();
        checks.due("item without boxes", x.item(0, 0, 0), BAD);
        x.box(4, 10, 5);
        checks.due("item of a box with nothing in it", x.item(0, 0, 0), BAD);
        x.put(0, 1);
        x.glue(10, 3, 2, 0, 0);
        x.leaders(3, 0);
        x.kern(-1);
        x.rule(6, RUNNING, 2);
        x.pack(24);
        checks.dueAll("box", item(x, 1, 0), 1, 4, 0, 0, 0, 0, 9, 6);
        checks.dueAll("glue", item(x, 1, 1), 2, 15, 4, 3, 4, 4, 0, 0);
        checks.dueAll("kern", item(x, 1, 2), 3, -1, 19, 0, 0, 0, 0, 0);
        checks.dueAll("rule", item(x, 1, 3), 4, 6, 18, 0, 0, 0, 9, 2);
        for (int wrong : new int[] {-1, 4, Integer.MIN_VALUE, Integer.MAX_VALUE}) {
            checks.due("item " + wrong, x.item(1, wrong, 0), BAD);
        }
        for (int wrong : new int[] {-1, 8, Integer.MIN_VALUE, Integer.MAX_VALUE}) {
            checks.due("item, what " + wrong, x.item(1, 3, wrong), BAD);
        }
        for (int wrong : new int[] {-1, 2, Integer.MIN_VALUE, Integer.MAX_VALUE}) {
            checks.due("item of " + wrong, x.item(wrong, 0, 0), BAD);
        }
    }

    private void promise12To14SizeNaturalDrop() {
        checks.about("promises 12 to 14");
        BoxGlue x = new BoxGlue();
        checks.due("drop", x.drop(), NO);
        x.box(100000, 0, 0);
        x.pack(1000000);
        for (int i = 1; i <= 40; i++) {
            x.put(1, 0);
            checks.due("size", x.size(), i);
            checks.due("natural", x.natural(), 1000000L * i);
        }
        checks.due("drop", x.drop(), 39);
        checks.due("natural", x.natural(), 39000000);
        x.kern(-100000);
        checks.due("natural", x.natural(), 38900000);
        for (int left = 39; left >= 0; left--) {
            checks.due("drop", x.drop(), left);
            checks.due("size", x.size(), left);
        }
        checks.due("drop", x.drop(), NO);
        checks.due("size", x.size(), 0);
        checks.due("natural", x.natural(), 0);
        x.glue(-7, 5, 0, 5, 0);
        x.rule(3, 0, 0);
        checks.due("natural below 0", x.natural(), -4);
    }

    private void promise15Boxes() {
        checks.about("promise 15");
        BoxGlue x = new BoxGlue();
        x.box(1, 1, 1);
        checks.due("boxes", x.boxes(), 1);
        x.kern(1);
        x.pack(-1);
        checks.due("boxes", x.boxes(), 2);
        x.unpack(1);
        x.drop();
        x.box(-1, 0, 0);
        x.pack(-2);
        checks.due("boxes", x.boxes(), 2);
    }
}
