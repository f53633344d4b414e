/** Each sentence under "Terms" on packing, OVER, badness and leaders: on both sides of where its cases part. */
public final class TermsTest {
    private static final int BAD_MOST = 10000;
    private static final int BAD_OVER = 1000000;

    private final Checks checks = new Checks();

    public static void main(String[] args) {
        new TermsTest().all();
    }

    private void all() {
        naturalLengthIsTheSum();
        lengthIsToldOrNatural();
        heightIsTheGreatestOfZeroBoxesAndRules();
        depthIsTheGreatestOfZeroBoxesAndRules();
        aRunningRuleHasTheBoxes();
        boxesInBoxes();
        stretchIsByTheGreatestOrderThatIsNotZero();
        stretchIsSharedOutInParts();
        badnessIsZeroForAnOrderAboveZero();
        badnessIsACube();
        badnessIsAtMost10000();
        nothingStretches();
        shrinkIsByTheGreatestOrderThatIsNotZero();
        shrinkIsSharedOutInParts();
        shrinkOfOrder0HasAnEnd();
        shrinkOfAGreaterOrderHasNone();
        nothingShrinks();
        nothingIsMissing();
        itemsStandOneBehindTheOther();
        theBoxHasItsLengthAllTheSame();
        leadersNeedALengthAndRoom();
        alignedLeadersStandWhereTheirLengthDivides();
        alignedLeadersAlsoStandBeforeTheBeginning();
        centredLeadersStandInTheMiddle();
        spreadLeadersHaveGaps();
        leadersInGlueThatGave();
        leadersOfGreatAndSmallBoxes();
        onlyGlueHasLeaders();
        checks.end();
    }

    private void due(String run, long answer) {
        checks.due(run, Runs.last(run), answer);
    }

    /** Length, height, depth, items, badness, OVER, order and natural length of box 0. */
    private void told(String run, int... answers) {
        checks.dueAll(run, Runs.each(run, "told 0 #", 8), answers);
    }

    private void lengths(String run, int... answers) {
        checks.dueAll(run + ", lengths", Runs.each(run, "item 0 # 1", answers.length), answers);
    }

    private void places(String run, int... answers) {
        checks.dueAll(run + ", places", Runs.each(run, "item 0 # 2", answers.length), answers);
    }

    private void naturalLengthIsTheSum() {
        checks.about("N is the sum of its items' natural lengths");
        told("pack 0", 0, 0, 0, 0, 0, 0, -1, 0);
        told("kern 5; glue -7 0 0 0 0; rule 11 0 0; pack -1", 9, 0, 0, 3, 0, 0, -1, 9);
        due("box 30 0 0; put 0 5; put 0 -5; kern 1; natural", 61);
        checks.about("a box's is the length that it was packed to");
        due("kern 50; pack 8; put 0 0; natural", 8);
        due("kern -50; pack -1; put 0 0; natural", 0);
        due("glue 5 1 0 0 0; pack 800; put 0 0; natural", 800);
    }

    private void lengthIsToldOrNatural() {
        checks.about("it is to have length L, which is told or N");
        due("kern 7; pack -1; told 0 0", 7);
        due("kern 7; pack 7; told 0 0", 7);
        due("kern 7; pack 6; told 0 0", 6);
        due("kern 7; pack 8; told 0 0", 8);
        due("kern 7; pack 0; told 0 0", 0);
        due("kern 7; pack 0; told 0 7", 7);
    }

    private void heightIsTheGreatestOfZeroBoxesAndRules() {
        checks.about("height: of 0");
        due("kern 9; glue 9 1 0 1 0; pack -1; told 0 1", 0);
        due("box 1 10 4; put 0 11; pack -1; told 1 1", 0);
        due("box 1 10 4; put 0 10; pack -1; told 1 1", 0);
        checks.about("height: boxes' heights less shifts");
        due("box 1 10 4; put 0 9; pack -1; told 1 1", 1);
        due("box 1 10 4; put 0 0; pack -1; told 1 1", 10);
        due("box 1 10 4; put 0 -1; pack -1; told 1 1", 11);
        due("box 1 10 4; put 0 3; put 0 2; put 0 4; pack -1; told 1 1", 8);
        checks.about("height: heights told of rules");
        due("box 1 10 4; put 0 0; rule 1 9 0; pack -1; told 1 1", 10);
        due("box 1 10 4; put 0 0; rule 1 11 0; pack -1; told 1 1", 11);
        due("rule 1 0 7; pack -1; told 0 1", 0);
        due("rule 1 1 7; pack -1; told 0 1", 1);
        due("rule 1 -1000000 7; pack -1; told 0 1", 0);
        checks.about("height: a leader's box is no item");
        due("box 5 10 4; glue 50 0 0 0 0; leaders 2 0; pack -1; told 1 1", 0);
    }

    private void depthIsTheGreatestOfZeroBoxesAndRules() {
        checks.about("depth: of 0");
        due("kern 9; glue 9 1 0 1 0; pack -1; told 0 2", 0);
        due("box 1 10 4; put 0 -5; pack -1; told 1 2", 0);
        due("box 1 10 4; put 0 -4; pack -1; told 1 2", 0);
        checks.about("depth: boxes' depths and shifts");
        due("box 1 10 4; put 0 -3; pack -1; told 1 2", 1);
        due("box 1 10 4; put 0 0; pack -1; told 1 2", 4);
        due("box 1 10 4; put 0 1; pack -1; told 1 2", 5);
        due("box 1 10 4; put 0 3; put 0 5; put 0 4; pack -1; told 1 2", 9);
        checks.about("depth: depths told of rules");
        due("box 1 10 4; put 0 0; rule 1 0 3; pack -1; told 1 2", 4);
        due("box 1 10 4; put 0 0; rule 1 0 5; pack -1; told 1 2", 5);
        due("rule 1 7 0; pack -1; told 0 2", 0);
        due("rule 1 7 1; pack -1; told 0 2", 1);
        due("rule 1 7 -1000000; pack -1; told 0 2", 0);
        checks.about("depth: a leader's box is no item");
        due("box 5 10 4; glue 50 0 0 0 0; leaders 2 0; pack -1; told 1 2", 0);
    }

    private void aRunningRuleHasTheBoxes() {
        checks.about("a running rule has the box's height and depth");
        String run = "rule 1 -1000000 3; rule 1 8 -1000000; rule 1 -1000000 -1000000; rule 1 2 1; pack -1";
        told(run, 4, 8, 3, 4, 0, 0, -1, 4);
        checks.dueAll("heights", Runs.each(run, "item 0 # 6", 4), 8, 8, 8, 2);
        checks.dueAll("depths", Runs.each(run, "item 0 # 7", 4), 3, 3, 3, 1);
        due("rule 1 -1000000 -1000000; pack -1; item 0 0 6", 0);
        due("rule 1 -1000000 -1000000; pack -1; item 0 0 7", 0);
        due("box 1 0 0; rule 1 -1000000 0; put 0 -100000; pack -1; item 1 0 6", 100000);
    }

    private void boxesInBoxes() {
        checks.about("boxes in boxes: heights and depths may grow beyond 100000");
        String run = "box 1 100000 0; put 0 -100000; pack -1; put 1 -100000; pack -1; put 2 -100000; pack -1";
        due(run + "; told 3 1", 400000);
        due(run + "; item 3 0 6", 400000);
        due(run + "; item 3 0 7", -100000);
        due(run + "; told 3 2", 0);
        String down = "box 1 0 100000; put 0 100000; pack -1; put 1 100000; pack -1";
        due(down + "; told 2 2", 300000);
        due(down + "; item 2 0 6", -100000);
        StringBuilder deepest = new StringBuilder("box 1 100000 0");
        for (int box = 0; box < 59; box++) {
            deepest.append("; put ").append(box).append(" -100000; pack -1");
        }
        due(deepest + "; told 59 1", 6000000);
    }

    private void stretchIsByTheGreatestOrderThatIsNotZero() {
        checks.about("x above 0: by the greatest order for which the stretches are not 0");
        for (int order = 0; order <= 3; order++) {
            due("glue 0 1 " + order + " 0 0; pack 5; told 0 6", order);
            for (int less = 0; less < order; less++) {
                String run = "glue 1 1000 " + less + " 0 0; glue 2 1 " + order + " 0 0; pack 9";
                due(run + "; told 0 6", order);
                lengths(run, 1, 8);
                due("glue 1 1 " + less + " 0 0; glue 2 0 " + order + " 0 0; pack 9; told 0 6", less);
                lengths("glue 1 1 " + less + " 0 0; glue 2 0 " + order + " 0 0; pack 9", 7, 2);
            }
        }
        checks.about("x above 0: shrinks do not count");
        lengths("glue 0 1 0 9 3; glue 0 3 0 8 2; pack 8", 2, 6);
    }

    private void stretchIsSharedOutInParts() {
        checks.about("x above 0: it gets x P / S - x Q / S (divisions leave the rest off)");
        lengths("glue 0 1 0 0 0 x3; pack 1", 0, 0, 1);
        lengths("glue 0 1 0 0 0 x3; pack 2", 0, 1, 1);
        lengths("glue 0 1 0 0 0 x3; pack 3", 1, 1, 1);
        lengths("glue 0 1 0 0 0 x3; pack 4", 1, 1, 2);
        lengths("glue 0 1 0 0 0 x3; pack 5", 1, 2, 2);
        lengths("glue 0 2 2 0 0; kern 4; glue 0 5 1 0 0; glue 0 0 2 0 0; glue 0 5 2 0 0; pack 14", 2, 4, 0, 0, 8);
        lengths("glue -9 1000 3 0 0; glue -9 1 3 0 0; pack 0", 8, -8);
        checks.about("x above 0: x P is greater than an int");
        int[] due = new int[40];
        for (int i = 0; i < 40; i++) {
            due[i] = (int) (999999L * (i + 1) / 40 - 999999L * i / 40);
        }
        lengths("glue 0 1000 0 0 0 x40; pack 999999", due);
        lengths("glue 0 1000 1 0 0 x40; pack 999999", due);
        due("kern -100000 x38; glue 0 1000 0 0 0; glue 0 999 0 0 0; pack 1000000; item 0 38 1", 2401200);
        due("kern -100000 x38; glue 0 1000 0 0 0; glue 0 999 0 0 0; pack 1000000; item 0 39 1", 2398800);
    }

    private void badnessIsZeroForAnOrderAboveZero() {
        checks.about("badness 0 for an order above 0");
        due("glue 0 1 0 0 0; pack 1; told 0 4", 100);
        due("glue 0 1 1 0 0; pack 1; told 0 4", 0);
        due("glue 0 1 1 0 0; pack 1000000; told 0 4", 0);
        due("glue 0 1 3 0 0; pack 1000000; told 0 4", 0);
        due("glue 0 1 0 0 0; glue 0 1 1 0 0; pack 1000000; told 0 4", 0);
    }

    private void badnessIsACube() {
        checks.about("else 100 x^3 / S^3");
        due("glue 0 10 0 0 0; pack 2; told 0 4", 0);
        due("glue 0 10 0 0 0; pack 3; told 0 4", 2);
        due("glue 0 10 0 0 0; pack 9; told 0 4", 72);
        due("glue 0 10 0 0 0; pack 10; told 0 4", 100);
        due("glue 0 10 0 0 0; pack 11; told 0 4", 133);
        due("glue 0 10 0 0 0; pack 20; told 0 4", 800);
        due("glue 0 4 0 0 0; kern 1; glue 0 6 0 0 0; pack 21; told 0 4", 800);
        due("glue 0 1000 0 0 0; pack 1; told 0 4", 0);
        due("glue 0 1000 0 0 0; pack 215; told 0 4", 0);
        due("glue 0 1000 0 0 0; pack 216; told 0 4", 1);
        due("glue 0 1000 0 0 0 x40; pack 40000; told 0 4", 100);
        due("glue 0 1000 0 0 0 x40; pack 39999; told 0 4", 99);
    }

    private void badnessIsAtMost10000() {
        checks.about("at most 10000");
        due("glue 0 1 0 0 0; pack 4; told 0 4", 6400);
        due("glue 0 1 0 0 0; pack 5; told 0 4", BAD_MOST);
        due("glue 0 10 0 0 0; pack 46; told 0 4", 9733);
        due("glue 0 10 0 0 0; pack 47; told 0 4", BAD_MOST);
        due("glue 0 1000 0 0 0; pack 4641; told 0 4", 9996);
        due("glue 0 1000 0 0 0; pack 4642; told 0 4", BAD_MOST);
        due("glue 0 1000 0 0 0 x40; pack 185663; told 0 4", 9999);
        due("glue 0 1000 0 0 0 x40; pack 185664; told 0 4", BAD_MOST);
        checks.about("at most 10000, where the cube is greater than an int or a long");
        for (int x = 5; x <= 1000000; x += x / 8 + 1) {
            due("glue 0 1 0 0 0; pack " + x + "; told 0 4", BAD_MOST);
        }
        due("kern -100000 x39; glue 0 1 0 0 0; pack 1000000; told 0 4", BAD_MOST);
        due("kern -100000 x39; glue -100000 1000 0 0 0; pack 1000000; told 0 4", BAD_MOST);
    }

    private void nothingStretches() {
        checks.about("when there is no such glue, nothing gets more, badness 10000");
        told("kern 5; pack 6", 6, 0, 0, 1, BAD_MOST, 0, -1, 5);
        told("glue 5 0 0 9 0; pack 6", 6, 0, 0, 1, BAD_MOST, 0, -1, 5);
        told("glue 5 0 3 9 3; pack 1000000", 1000000, 0, 0, 1, BAD_MOST, 0, -1, 5);
        told("pack 1", 1, 0, 0, 0, BAD_MOST, 0, -1, 0);
        lengths("kern 5; glue 4 0 3 9 3; rule 3 0 0; pack 90", 5, 4, 3);
    }

    private void shrinkIsByTheGreatestOrderThatIsNotZero() {
        checks.about("x below 0: likewise by shrinks");
        for (int order = 0; order <= 3; order++) {
            due("glue 9 0 0 9 " + order + "; pack 5; told 0 6", order);
            for (int less = 0; less < order; less++) {
                String run = "glue 10 0 0 1000 " + less + "; glue 20 0 0 1 " + order + "; pack 23";
                due(run + "; told 0 6", order);
                lengths(run, 10, 13);
                String zero = "glue 10 0 0 9 " + less + "; glue 20 0 0 0 " + order + "; pack 23";
                due(zero + "; told 0 6", less);
                lengths(zero, 3, 20);
            }
        }
        checks.about("x below 0: stretches do not count");
        lengths("glue 9 9 3 2 0; glue 9 8 2 6 0; pack 10", 7, 3);
    }

    private void shrinkIsSharedOutInParts() {
        checks.about("x below 0: what is got is less, the rest left off");
        lengths("glue 9 0 0 1 0 x3; pack 26", 9, 9, 8);
        lengths("glue 9 0 0 1 0 x3; pack 25", 9, 8, 8);
        lengths("glue 9 0 0 1 0 x3; pack 24", 8, 8, 8);
        lengths("glue 9 0 0 1 2 x3; pack 23", 8, 8, 7);
        lengths("glue 9 0 0 2 0; kern 4; glue 9 0 0 5 0; pack 19", 9, 4, 6);
        checks.about("x below 0: x P is less than an int");
        due("pack 1000000; put 0 0 x38; glue 0 0 0 999 1; glue 0 0 0 1000 1; pack 0; item 1 38 1", -18990495);
        due("pack 1000000; put 0 0 x38; glue 0 0 0 999 1; glue 0 0 0 1000 1; pack 0; item 1 39 1", -19009505);
    }

    private void shrinkOfOrder0HasAnEnd() {
        checks.about("by order 0, if -x is above S, only S is shared out, OVER is -x - S, badness 1000000");
        told("glue 20 0 0 7 0; pack 14", 14, 0, 0, 1, 62, 0, 0, 20);
        told("glue 20 0 0 7 0; pack 13", 13, 0, 0, 1, 100, 0, 0, 20);
        told("glue 20 0 0 7 0; pack 12", 12, 0, 0, 1, BAD_OVER, 1, 0, 20);
        told("glue 20 0 0 7 0; pack 0", 0, 0, 0, 1, BAD_OVER, 13, 0, 20);
        lengths("glue 20 0 0 3 0; kern 5; glue 20 0 0 4 0; glue 20 9 0 0 3; pack 59", 18, 5, 16, 20);
        lengths("glue 20 0 0 3 0; kern 5; glue 20 0 0 4 0; glue 20 9 0 0 3; pack 58", 17, 5, 16, 20);
        lengths("glue 20 0 0 3 0; kern 5; glue 20 0 0 4 0; glue 20 9 0 0 3; pack 57", 17, 5, 16, 20);
        lengths("glue 20 0 0 3 0; kern 5; glue 20 0 0 4 0; glue 20 9 0 0 3; pack 0", 17, 5, 16, 20);
        due("glue 1000 0 0 1000 0 x40; pack 0; told 0 5", 0);
        due("glue 1000 0 0 1000 0 x39; glue 1001 0 0 1000 0; pack 0; told 0 5", 1);
        due("glue 100000 0 0 1000 0 x40; pack 0; told 0 5", 3960000);
    }

    private void shrinkOfAGreaterOrderHasNone() {
        checks.about("by an order above 0, all of x is shared out, OVER is 0, badness 0");
        for (int order = 1; order <= 3; order++) {
            told("glue 20 0 0 7 " + order + "; pack 13", 13, 0, 0, 1, 0, 0, order, 20);
            told("glue 20 0 0 7 " + order + "; pack 12", 12, 0, 0, 1, 0, 0, order, 20);
            told("glue 20 0 0 7 " + order + "; pack 0", 0, 0, 0, 1, 0, 0, order, 20);
            lengths("kern 20; glue 0 0 0 1 " + order + "; glue 5 0 0 4 0; pack 0", 20, -25, 5);
        }
    }

    private void nothingShrinks() {
        checks.about("also without any glue that shrinks: S is 0");
        told("kern 5; pack 4", 4, 0, 0, 1, BAD_OVER, 1, -1, 5);
        told("kern 5; pack 0", 0, 0, 0, 1, BAD_OVER, 5, -1, 5);
        told("glue 5 9 0 0 0; pack 4", 4, 0, 0, 1, BAD_OVER, 1, -1, 5);
        told("glue 5 9 3 0 3; pack 4", 4, 0, 0, 1, BAD_OVER, 1, -1, 5);
        lengths("kern 5; glue 5 9 3 0 3; pack 0", 5, 5);
    }

    private void nothingIsMissing() {
        checks.about("x = 0: badness 0; OVER is 0 else");
        told("glue 5 1 0 1 0; pack 5", 5, 0, 0, 1, 0, 0, -1, 5);
        told("glue 5 1 3 1 3; pack -1", 5, 0, 0, 1, 0, 0, -1, 5);
        told("kern 5; pack 5", 5, 0, 0, 1, 0, 0, -1, 5);
        told("kern 5; glue -5 0 0 0 0; pack 0", 0, 0, 0, 2, 0, 0, -1, 0);
        lengths("glue 5 1 0 1 0; glue 6 2 1 3 1; pack 11", 5, 6);
        told("glue 5 1 0 1 0; pack 6", 6, 0, 0, 1, 100, 0, 0, 5);
        told("glue 5 1 0 1 0; pack 4", 4, 0, 0, 1, 100, 0, 0, 5);
    }

    private void itemsStandOneBehindTheOther() {
        checks.about("the items stand one behind the other from 0 on");
        places("kern 5; pack 5", 0);
        places("kern 5; glue 0 2 0 0 0; rule 3 0 0; kern 1; pack 19", 0, 5, 15, 18);
        places("kern -5; kern 2; kern -1; kern 9; kern 0; kern 3; pack -1", 0, -5, -3, -4, 5, 5);
        places("glue 20 0 0 3 0; kern 5; glue 20 0 0 4 0; kern 0; pack 30", 0, 17, 22, 38);
        places("kern 5; kern 6; kern 7; pack 100", 0, 5, 11);
        places("kern -100000 x3; pack -1", 0, -100000, -200000);
    }

    private void theBoxHasItsLengthAllTheSame() {
        checks.about("the box has length L all the same");
        due("kern 5; pack 100; told 0 0", 100);
        due("kern 5; pack 2; told 0 0", 2);
        due("kern 5; pack 2; item 0 0 1", 5);
        due("kern 5; pack 2; put 0 0; kern 1; pack -1; item 1 1 2", 2);
        due("kern 5; pack 100; put 0 0; kern 1; pack -1; item 1 1 2", 100);
    }

    /** How many leaders, where the first one stands and how far it is to the next, in glue behind a kern. */
    private void row(int kind, int boxLength, int kern, int glue, int... answers) {
        String run = "box " + boxLength + " 3 3; kern " + kern + "; glue " + glue + " 0 0 0 0; leaders " + kind
            + " 0; pack 0";
        int[] all = Runs.each(run, "item 1 1 #", 6);
        checks.due(run + ", length", all[1], glue);
        checks.due(run + ", place", all[2], kern);
        checks.dueAll(run, new int[] {all[3], all[4], all[5]}, answers);
    }

    private void leadersNeedALengthAndRoom() {
        checks.about("if b is 0 or g is less than b, none are drawn");
        for (int kind = 1; kind <= 3; kind++) {
            row(kind, 0, 14, 70, 0, 0, 0);
            row(kind, 0, 14, 0, 0, 0, 0);
            row(kind, 1, 14, 0, 0, 0, 0);
            row(kind, 1, 14, 1, 1, 14, 1);
            row(kind, 7, 14, 6, 0, 0, 0);
            row(kind, 7, 14, 7, 1, 14, 7);
            row(kind, 7, 14, -7, 0, 0, 0);
            row(kind, 7, 14, -100000, 0, 0, 0);
            row(kind, 100000, 100000, 99999, 0, 0, 0);
            row(kind, 100000, 100000, 100000, 1, 100000, 100000);
        }
    }

    private void alignedLeadersStandWhereTheirLengthDivides() {
        checks.about("kind 1: at all places that b divides, with their whole length in the glue");
        row(1, 7, 0, 13, 1, 0, 7);
        row(1, 7, 0, 14, 2, 0, 7);
        row(1, 7, 13, 15, 2, 14, 7);
        row(1, 7, 14, 14, 2, 14, 7);
        row(1, 7, 15, 14, 1, 21, 7);
        row(1, 7, 15, 12, 0, 0, 0);
        row(1, 7, 15, 13, 1, 21, 7);
        row(1, 7, 20, 7, 0, 0, 0);
        row(1, 7, 20, 8, 1, 21, 7);
        row(1, 1, 20, 8, 8, 20, 1);
        checks.about("kind 1: from the new box's beginning");
        due("box 7 0 0; kern 3; glue 20 0 0 0 0; leaders 1 0; pack -1; kern 2; put 1 0; unpack 1; pack -1; item 2 3 4",
            28);
        due("box 7 0 0; kern 3; glue 20 0 0 0 0; leaders 1 0; pack -1; kern 2; put 1 0; unpack 1; pack -1; item 1 1 4",
            7);
    }

    private void alignedLeadersAlsoStandBeforeTheBeginning() {
        checks.about("kind 1: b divides places below 0 too");
        row(1, 7, -14, 14, 2, -14, 7);
        row(1, 7, -14, 13, 1, -14, 7);
        row(1, 7, -15, 15, 2, -14, 7);
        row(1, 7, -13, 13, 1, -7, 7);
        row(1, 7, -13, 12, 0, 0, 0);
        row(1, 7, -6, 12, 0, 0, 0);
        row(1, 7, -6, 13, 1, 0, 7);
        row(1, 7, -8, 22, 3, -7, 7);
        row(1, 100000, -100000, 100000, 1, -100000, 100000);
    }

    private void centredLeadersStandInTheMiddle() {
        checks.about("kind 2: g / b copies, the first one half of what is left behind the beginning");
        row(2, 7, 3, 13, 1, 6, 7);
        row(2, 7, 3, 14, 2, 3, 7);
        row(2, 7, 3, 15, 2, 3, 7);
        row(2, 7, 3, 16, 2, 4, 7);
        row(2, 7, 3, 17, 2, 4, 7);
        row(2, 7, 3, 20, 2, 6, 7);
        row(2, 7, 3, 21, 3, 3, 7);
        row(2, 7, -30, 17, 2, -29, 7);
        row(2, 7, -1, 8, 1, -1, 7);
        row(2, 7, -1, 9, 1, 0, 7);
    }

    private void spreadLeadersHaveGaps() {
        checks.about("kind 3: g / b copies, n, with what is left over divided by n + 1 as gaps before each");
        row(3, 7, 3, 8, 1, 3, 7);
        row(3, 7, 3, 9, 1, 4, 8);
        row(3, 7, 3, 13, 1, 6, 10);
        row(3, 7, 3, 14, 2, 3, 7);
        row(3, 7, 3, 16, 2, 3, 7);
        row(3, 7, 3, 17, 2, 4, 8);
        row(3, 7, 3, 19, 2, 4, 8);
        row(3, 7, 3, 20, 2, 5, 9);
        row(3, 7, 3, 21, 3, 3, 7);
        row(3, 7, -30, 20, 2, -28, 9);
        row(3, 100, 5, 999, 9, 14, 109);
    }

    private void leadersInGlueThatGave() {
        checks.about("leaders in glue that came to have length g");
        String run = "box 10 0 0; kern 5; glue 15 1 0 12 0; leaders ";
        due(run + "2 0; pack 34; item 1 1 3", 2);
        due(run + "2 0; pack 35; item 1 1 3", 3);
        due(run + "2 0; pack 36; item 1 1 4", 5);
        due(run + "2 0; pack 37; item 1 1 4", 6);
        due(run + "2 0; pack 15; item 1 1 3", 1);
        due(run + "2 0; pack 14; item 1 1 3", 0);
        due(run + "2 0; pack 0; item 1 1 3", 0);
        due(run + "1 0; pack 19; item 1 1 3", 0);
        due(run + "1 0; pack 20; item 1 1 3", 1);
        due(run + "1 0; pack 29; item 1 1 3", 1);
        due(run + "1 0; pack 30; item 1 1 3", 2);
        due(run + "3 0; pack 23; item 1 1 5", 14);
    }

    private void leadersOfGreatAndSmallBoxes() {
        checks.about("leaders of the greatest and the smallest box");
        for (int kind = 1; kind <= 3; kind++) {
            String great = "pack 1000000; glue 0 1 1 0 0; leaders " + kind + " 0; ";
            due(great + "pack 1000000; item 1 0 3", 1);
            due(great + "pack 1000000; item 1 0 5", 1000000);
            due(great + "pack 999999; item 1 0 3", 0);
            due(great + "pack 999999; item 1 0 5", 0);
            String small = "box 1 0 0; glue 0 1 1 0 0; leaders " + kind + " 0; pack 1000000; ";
            due(small + "item 1 0 3", 1000000);
            due(small + "item 1 0 4", 0);
            due(small + "item 1 0 5", 1);
        }
        String far = "pack 1000000; put 0 0 x38; glue 0 0 0 1 1; glue 7 0 0 0 0; leaders 1 0; ";
        due(far + "pack 0; item 1 39 3", 0);
        due("pack 1000000; put 0 0 x38; glue 100000 0 0 0 0; box 99999 0 0; leaders 1 1; pack 0; item 2 38 3", 0);
        due("pack 1000000; put 0 0 x38; glue 100000 0 0 0 0; box 50000 0 0; leaders 1 1; pack 0; item 2 38 3", 2);
        due("pack 1000000; put 0 0 x38; glue 100000 0 0 0 0; box 50000 0 0; leaders 1 1; pack 0; item 2 38 4",
            38000000);
    }

    private void onlyGlueHasLeaders() {
        checks.about("4, 5: 0 without leaders");
        String run = "box 7 3 2; kern 14; rule 14 1 1; put 0 0; glue 14 0 0 0 0; pack -1";
        for (int what = 3; what <= 5; what++) {
            checks.dueAll("item " + what, Runs.each(run, "item 1 # " + what, 4), 0, 0, 0, 0);
        }
        checks.about("6, 7: 0 for glue and kerns");
        String row = "box 7 3 2; put 0 0; kern 14; glue 14 0 0 0 0; leaders 2 0; pack -1";
        checks.dueAll("heights", Runs.each(row, "item 1 # 6", 3), 3, 0, 0);
        checks.dueAll("depths", Runs.each(row, "item 1 # 7", 3), 2, 0, 0);
    }
}
