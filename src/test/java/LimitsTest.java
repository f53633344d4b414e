/**
 * Each sentence of the document that sets a limit or refuses a call: the last input that is allowed, the first that is
 * not, and that a refused call changes nothing that can be seen.
 */
public final class LimitsTest {
    private static final int BAD = -1;
    private static final int FULL = -2;
    private static final int NO = -3;

    /** Boxes 0 to 2, the last with two items in it; a list of four items, the last one glue with leaders. */
    private static final String MIXED = "box 7 4 2; box 0 0 0; kern 3; glue 10 5 0 2 1; leaders 2 0; pack 30; "
        + "put 2 -3; rule 6 -1000000 9; kern -4; glue 12 3 1 4 0; leaders 3 0";
    private static final String FULL_LIST = MIXED + "; kern 5 x35; glue 20 2 0 2 0; leaders 1 0";
    private static final String ALL_BOXES = MIXED + "; box 8 8 8 x57";
    private static final String ALL_ITEMS = "kern 1 x40; pack -1" + "; unpack 0; pack -1".repeat(6)
        + "; unpack 0; drop x20; pack -1";
    private static final String[] ITEM_CALLS = {"put 0 0", "glue 1 2 3 4 0", "kern 5", "rule 1 2 3"};

    private final Checks checks = new Checks();

    public static void main(String[] args) {
        new LimitsTest().all();
    }

    private void all() {
        anObjectIsUsedForAtMost512Calls();
        laterCallsDoNotThrow();
        refusedCallsUseNothingUp();
        aListHasAtMost40Items();
        thereAreAtMost60Boxes();
        boxesHaveAtMost300ItemsTogether();
        aNewObjectHasNoItemsAndNoBoxes();
        boxLengthsAreWithin0And100000();
        boxIsBadBeforeItIsFull();
        putNamesABoxAndAShift();
        aBoxIsPutAsOftenAsOneLikes();
        glueIsWithinItsBounds();
        kernsAreWithinTheirBounds();
        ruleLengthsAreWithin0And100000();
        ruleHeightsAndDepthsMayBeRunning();
        leadersNameAKindAndABox();
        leadersAnswerNoWithoutGlue();
        leadersGoToTheLastItem();
        packTakes0To1000000();
        packTakesTheNaturalLength();
        packIsBadAboveANaturalLengthOf1000000();
        packEmptiesTheList();
        unpackNamesABox();
        unpackBringsAllOrNone();
        unpackLeavesTheBox();
        unpackedGlueIsAsItWasGiven();
        toldNamesABoxAndAQuestion();
        toldOfABoxThatBoxMade();
        itemNamesABoxAnItemAndAQuestion();
        sizeNaturalAndBoxesCountOnlyWhatCame();
        dropAnswersNoWithoutItems();
        checks.end();
    }

    private void due(String run, long answer) {
        checks.due(run, Runs.last(run), answer);
    }

    /** Behind a setup, a call answers so, and nothing that can be seen is other than without it. */
    private void changesNothing(String setup, String call, long answer) {
        due(setup + "; " + call, answer);
        boolean same = Runs.seen(setup).equals(Runs.seen(setup + "; " + call));
        checks.due(setup + "; " + call + ": left as it was", same ? 1 : 0, 1);
    }

    /** A call with '#' for an argument: its least and its greatest value answer so, those beyond are BAD. */
    private void edges(String setup, String call, int least, int most, long answer) {
        due(setup + "; " + call.replace("#", "" + least), answer);
        due(setup + "; " + call.replace("#", "" + most), answer);
        badBeyond(setup, call, least, most);
    }

    private void badBeyond(String setup, String call, int least, int most) {
        for (int wrong : new int[] {least - 1, most + 1, Integer.MIN_VALUE, Integer.MAX_VALUE}) {
            changesNothing(setup, call.replace("#", "" + wrong), BAD);
        }
    }

    private void anObjectIsUsedForAtMost512Calls() {
        checks.about("What it is: at most 512 calls");
        due("kern 1; drop; ".repeat(255) + "kern 7; natural", 7);
        due("size x511; box 1 2 3", 0);
        due("kern 1 x40; drop x40; ".repeat(6) + "box 9 8 7 x30; told 29 0; told 29 2", 7);
        due("kern 4; glue 2 2 0 1 0; pack 10; " + "unpack 0; drop x2; ".repeat(169) + "unpack 0; pack 9", 1);
    }

    /** Their answers are free, but LANGUAGE.md lets no call throw, whatever the state and the arguments. */
    private void laterCallsDoNotThrow() {
        checks.about("LANGUAGE.md 7: no call throws");
        int[] some = {Integer.MIN_VALUE, -1000000, -1, 0, 1, 2, 3, 7, 1000, 100000, 1000000, Integer.MAX_VALUE};
        BoxGlue x = new BoxGlue();
        int calls = 0;
        for (int round = 0; round < 20; round++) {
            for (int a : some) {
                for (int b : some) {
                    x.box(a, b, 1);
                    x.put(a, b);
                    x.kern(b);
                    x.rule(a, b, a);
                    x.glue(a, b, round % 4, 5, 3);
                    x.glue(7, 5, a, b, round % 4);
                    x.leaders(a, b);
                    x.told(a, b);
                    x.item(a, b, round % 8);
                    x.item(round, a, b);
                    x.unpack(round % 2 == 0 ? a : b);
                    x.pack(round % 3 == 0 ? a : b);
                    x.drop();
                    calls += 13;
                }
            }
        }
        checks.due("calls", calls, 20 * 144 * 13);
        checks.due("size is within its bounds", x.size() >= 0 && x.size() <= 40 ? 1 : 0, 1);
        checks.due("boxes is within its bounds", x.boxes() >= 0 && x.boxes() <= 60 ? 1 : 0, 1);
    }

    private void refusedCallsUseNothingUp() {
        checks.about("Refused calls use nothing up");
        due("box 100001 0 0 x500; box 1 2 3", 0);
        due("kern 100001 x500; kern 1", 1);
        due("pack -2 x500; pack -1", 0);
        due("kern 1 x40; kern 1 x400; drop; kern 1", 40);
        due("box 1 1 1 x60; box 1 1 1 x400; boxes", 60);
        due(ALL_ITEMS + "; kern 1; pack -1 x400; size", 1);
        due("drop x500; kern 1", 1);
    }

    private void aListHasAtMost40Items() {
        checks.about("Terms: a list has at most 40 items");
        for (String call : ITEM_CALLS) {
            due("box 1 2 3; kern 1 x39; " + call, 40);
            changesNothing(FULL_LIST, call, FULL);
            due(FULL_LIST + "; drop; " + call, 40);
        }
        for (int count = 1; count <= 40; count++) {
            due("box 1 2 3; " + ITEM_CALLS[count % 4] + " x" + count, count);
        }
        checks.about("Promises 3 to 6: what is wrong is BAD, also when the list is full");
        for (String call : new String[] {"put 3 0", "put 0 100001", "glue 1 2 4 4 0", "glue 100001 0 0 0 0",
            "kern 100001", "rule 1 2 -1", "rule -1 2 1"}) {
            changesNothing(FULL_LIST, call, BAD);
        }
    }

    private void thereAreAtMost60Boxes() {
        checks.about("Terms: boxes are numbered from 0, at most 60");
        for (int count = 1; count <= 60; count++) {
            due("box 1 2 3 x" + count, count - 1);
            due("pack 5 x" + count, count - 1);
        }
        due("box 1 2 3 x59; kern 4; pack -1", 59);
        due("pack 5 x59; box 1 2 3", 59);
        changesNothing(ALL_BOXES, "box 1 2 3", FULL);
        changesNothing(ALL_BOXES, "pack 5", FULL);
        changesNothing(ALL_BOXES, "pack -1", FULL);
        changesNothing("pack 5 x60", "box 1 2 3", FULL);
        changesNothing("pack 5 x60", "pack 5", FULL);
        due(ALL_BOXES + "; put 59 0", 5);
        due(ALL_BOXES + "; told 59 0", 8);
    }

    private void boxesHaveAtMost300ItemsTogether() {
        checks.about("Terms: items of all boxes together are at most 300");
        String most = ALL_ITEMS.substring(0, ALL_ITEMS.lastIndexOf("; drop"));
        due(most + "; drop x20; pack -1", 7);
        changesNothing(most + "; drop x19", "pack -1", FULL);
        changesNothing(most + "; drop x19", "pack 1000000", FULL);
        changesNothing(most + "; drop x19", "pack -2", BAD);
        changesNothing(most, "pack 0", FULL);
        changesNothing(ALL_ITEMS + "; kern 1", "pack -1", FULL);
        due(ALL_ITEMS + "; kern 1 x40", 40);
        due(ALL_ITEMS + "; unpack 0", 40);
        checks.about("Terms: a box without items does not count among the 300");
        due(ALL_ITEMS + "; pack -1", 8);
        due(ALL_ITEMS + "; box 1 2 3", 8);
        due("box 1 2 3 x50; pack 0; " + ALL_ITEMS.replace("unpack 0", "unpack 51"), 58);
    }

    private void aNewObjectHasNoItemsAndNoBoxes() {
        checks.about("Promise 1: no items, no boxes");
        due("size", 0);
        due("natural", 0);
        due("boxes", 0);
        changesNothing("", "drop", NO);
        for (String call : new String[] {"put 0 0", "leaders 1 0", "unpack 0", "told 0 0", "item 0 0 0"}) {
            changesNothing("", call, BAD);
        }
        due("pack -1", 0);
        due("box 0 0 0", 0);
    }

    private void boxLengthsAreWithin0And100000() {
        checks.about("Promise 2, Terms: of boxes 0 .. 100000");
        edges(MIXED, "box # 2 3", 0, 100000, 3);
        edges(MIXED, "box 1 # 3", 0, 100000, 3);
        edges(MIXED, "box 1 2 #", 0, 100000, 3);
        changesNothing(MIXED, "box -1000000 2 3", BAD);
        changesNothing(MIXED, "box 1 -1000000 3", BAD);
        changesNothing(MIXED, "box 1 2 -1000000", BAD);
        checks.dueAll("greatest box", Runs.each("box 99999 100000 99998", "told 0 #", 3), 99999, 100000, 99998);
        checks.dueAll("greatest box", Runs.each("box 100000 99999 100000", "told 0 #", 3), 100000, 99999, 100000);
        due("box 1 2 3; size", 0);
    }

    private void boxIsBadBeforeItIsFull() {
        checks.about("Promise 2: what is wrong is BAD, also with 60 boxes");
        changesNothing(ALL_BOXES, "box -1 2 3", BAD);
        changesNothing(ALL_BOXES, "box 1 100001 3", BAD);
        changesNothing(ALL_BOXES, "box 1 2 -1", BAD);
    }

    private void putNamesABoxAndAShift() {
        checks.about("Promise 3: a box that was made");
        edges(MIXED, "put # 0", 0, 2, 5);
        edges(ALL_BOXES, "put # 0", 0, 59, 5);
        changesNothing("kern 1", "put 0 0", BAD);
        checks.about("Promise 3: shifted by -100000 .. 100000");
        edges(MIXED, "put 0 #", -100000, 100000, 5);
        due("box 1 2 3; put 0 100000; pack -1; item 1 0 6", -99998);
        due("box 1 2 3; put 0 100000; pack -1; item 1 0 7", 100003);
        due("box 1 2 3; put 0 -100000; pack -1; item 1 0 6", 100002);
        due("box 1 2 3; put 0 -100000; pack -1; item 1 0 7", -99997);
        checks.about("Promise 3: it comes behind the others");
        checks.dueAll("sorts", Runs.each("box 1 2 3; kern 1; put 0 0; pack -1", "item 1 # 0", 2), 3, 1);
    }

    private void aBoxIsPutAsOftenAsOneLikes() {
        checks.about("Promise 3: a box may be put as often as one likes");
        due("box 6 2 3; put 0 0 x40", 40);
        due("box 6 2 3; put 0 0 x40; natural", 240);
        due("box 6 2 3; put 0 0 x40; pack -1; put 0 1; put 1 0; put 0 2", 3);
        due("box 6 2 3; put 0 0 x40; pack -1; put 0 1; put 1 0; put 0 2; natural", 252);
        due("box 6 2 3; put 0 0; boxes", 1);
    }

    private void glueIsWithinItsBounds() {
        checks.about("Promise 4, Terms: lengths are -100000 .. 100000");
        edges(MIXED, "glue # 2 1 4 0", -100000, 100000, 5);
        due("glue 100000 0 0 0 0; natural", 100000);
        due("glue -100000 0 0 0 0; natural", -100000);
        checks.about("Promise 4, Terms: stretch and shrink 0 .. 1000");
        edges(MIXED, "glue 1 # 1 4 0", 0, 1000, 5);
        edges(MIXED, "glue 1 2 1 # 0", 0, 1000, 5);
        due("glue 0 1000 0 0 0; pack 1000; told 0 4", 100);
        due("glue 1000 0 0 1000 0; pack 0; told 0 5", 0);
        checks.about("Promise 4, Terms: an order 0 .. 3");
        edges(MIXED, "glue 1 2 # 4 0", 0, 3, 5);
        edges(MIXED, "glue 1 2 1 4 #", 0, 3, 5);
        checks.about("Promise 4: an order is wrong also where nothing stretches or shrinks");
        edges(MIXED, "glue 1 0 # 0 0", 0, 3, 5);
        edges(MIXED, "glue 1 0 0 0 #", 0, 3, 5);
    }

    private void kernsAreWithinTheirBounds() {
        checks.about("Promise 5, Terms: lengths are -100000 .. 100000");
        edges(MIXED, "kern #", -100000, 100000, 5);
        changesNothing(MIXED, "kern -1000000", BAD);
        due("kern 100000; natural", 100000);
        due("kern -100000; natural", -100000);
        due("kern 0; size", 1);
    }

    private void ruleLengthsAreWithin0And100000() {
        checks.about("Promise 6, Terms: of rules 0 .. 100000");
        edges(MIXED, "rule # 2 3", 0, 100000, 5);
        edges(MIXED, "rule 1 # 3", 0, 100000, 5);
        edges(MIXED, "rule 1 2 #", 0, 100000, 5);
        changesNothing(MIXED, "rule -1000000 2 3", BAD);
        due("rule 100000 2 3; natural", 100000);
        due("rule 1 100000 3; pack -1; item 0 0 6", 100000);
        due("rule 1 2 100000; pack -1; item 0 0 7", 100000);
    }

    private void ruleHeightsAndDepthsMayBeRunning() {
        checks.about("Promise 6: height and depth may be RUNNING");
        due(MIXED + "; rule 1 -1000000 3", 5);
        due(MIXED + "; rule 1 2 -1000000", 5);
        due(MIXED + "; rule 1 -1000000 -1000000", 5);
        for (int near : new int[] {-1000001, -999999, 1000000}) {
            changesNothing(MIXED, "rule 1 " + near + " 3", BAD);
            changesNothing(MIXED, "rule 1 2 " + near, BAD);
        }
        changesNothing(MIXED, "rule 1 -1000000 -1", BAD);
        changesNothing(MIXED, "rule 1 100001 -1000000", BAD);
        changesNothing(MIXED, "rule -1 -1000000 -1000000", BAD);
    }

    private void leadersNameAKindAndABox() {
        checks.about("Promise 7: a kind (1 .. 3)");
        edges(MIXED, "leaders # 0", 1, 3, 1);
        checks.about("Promise 7: a box that was made");
        edges(MIXED, "leaders 1 #", 0, 2, 1);
        edges(ALL_BOXES, "leaders 1 #", 0, 59, 1);
        changesNothing("glue 1 0 0 0 0", "leaders 1 0", BAD);
        checks.about("Promise 7: what is wrong is BAD, also without glue");
        changesNothing("box 1 2 3", "leaders 0 0", BAD);
        changesNothing("box 1 2 3", "leaders 1 1", BAD);
        changesNothing("box 1 2 3; kern 4", "leaders 4 0", BAD);
        changesNothing("box 1 2 3; kern 4", "leaders 1 -1", BAD);
    }

    private void leadersAnswerNoWithoutGlue() {
        checks.about("Promise 7: NO when it is no glue, or there is no item");
        String glue = "box 1 2 3; glue 10 0 0 0 0; leaders 2 0; ";
        changesNothing("box 1 2 3", "leaders 1 0", NO);
        changesNothing(glue + "kern 10", "leaders 1 0", NO);
        changesNothing(glue + "rule 10 2 3", "leaders 1 0", NO);
        changesNothing(glue + "put 0 0", "leaders 1 0", NO);
        changesNothing(glue + "drop", "leaders 1 0", NO);
        changesNothing(glue + "pack -1", "leaders 1 0", NO);
        due(glue + "kern 10; drop; leaders 1 0", 1);
    }

    private void leadersGoToTheLastItem() {
        checks.about("Promise 7: the last item has leaders");
        String glue = "box 2 2 3; box 5 0 0; glue 10 0 0 0 0; glue 10 0 0 0 0; ";
        checks.dueAll("none", Runs.each(glue + "pack -1", "item 2 # 3", 2), 0, 0);
        checks.dueAll("the last", Runs.each(glue + "leaders 2 0; pack -1", "item 2 # 3", 2), 0, 5);
        checks.dueAll("others instead", Runs.each(glue + "leaders 2 0; leaders 3 1; pack -1", "item 2 # 3", 2), 0, 2);
        checks.dueAll("not the one that comes then",
            Runs.each(glue + "leaders 2 0; drop; glue 10 0 0 0 0; pack -1", "item 2 # 3", 2), 0, 0);
        due(glue + "leaders 2 0; size", 2);
        due(glue + "leaders 2 0; natural", 20);
    }

    private void packTakes0To1000000() {
        checks.about("Promise 8: to a length 0 .. 1000000, or -1");
        edges(MIXED, "pack #", -1, 1000000, 3);
        due(MIXED + "; pack 0", 3);
        due("kern 3; pack 0; told 0 0", 0);
        due("kern 3; pack 1000000; told 0 0", 1000000);
        changesNothing("", "pack -2", BAD);
        changesNothing("", "pack 1000001", BAD);
        checks.about("Promise 8: what is wrong is BAD, also with 60 boxes");
        changesNothing(ALL_BOXES, "pack -2", BAD);
        changesNothing(ALL_BOXES, "pack 1000001", BAD);
    }

    private void packTakesTheNaturalLength() {
        checks.about("Promise 8: -1: its natural one");
        due("pack -1; told 0 0", 0);
        due("kern 1; pack -1; told 0 0", 1);
        due("kern 0; pack -1; told 0 0", 0);
        due("kern 100000 x10; pack -1; told 0 0", 1000000);
        checks.about("Promise 8: 0 if that is below 0");
        due("kern -1; pack -1; told 0 0", 0);
        due("kern -1; pack -1; told 0 7", -1);
        due("kern -100000 x40; pack -1; told 0 0", 0);
        due("kern -100000 x40; pack -1; told 0 7", -4000000);
        checks.dueAll("stretched to 0", Runs.each("kern -5; glue 0 5 0 0 0; pack -1", "told 0 #", 8),
            0, 0, 0, 2, 100, 0, 0, -5);
    }

    private void packIsBadAboveANaturalLengthOf1000000() {
        checks.about("Promise 8: BAD also for -1, when the natural one is above 1000000");
        changesNothing("kern 100000 x10; kern 1", "pack -1", BAD);
        changesNothing("kern 100000 x40", "pack -1", BAD);
        changesNothing("pack 1000000; put 0 0 x40", "pack -1", BAD);
        changesNothing("box 1 1 1 x60; kern 100000 x11", "pack -1", BAD);
        checks.about("Promise 8: a told length is right also then");
        due("kern 100000 x10; kern 1; pack 1000000", 0);
        due("kern 100000 x40; pack 0; told 0 7", 4000000);
        due("pack 1000000; put 0 0 x40; pack 0; told 1 7", 40000000);
        due("pack 1000000; put 0 0 x40; pack 0; told 1 5", 40000000);
    }

    private void packEmptiesTheList() {
        checks.about("Promise 8: the list is empty then");
        due(MIXED + "; pack 50; size", 0);
        due(MIXED + "; pack 50; natural", 0);
        due(MIXED + "; pack 50; drop", NO);
        due(FULL_LIST + "; pack 50; size", 0);
        due(FULL_LIST + "; pack 50; told 3 3", 40);
        due(FULL_LIST + "; pack 50; kern 1 x40", 40);
        checks.about("Promise 8: an empty list is packed too");
        checks.dueAll("to 0", Runs.each("pack 0", "told 0 #", 8), 0, 0, 0, 0, 0, 0, -1, 0);
        checks.dueAll("to its own", Runs.each("pack -1", "told 0 #", 8), 0, 0, 0, 0, 0, 0, -1, 0);
        checks.dueAll("to 1", Runs.each("pack 1", "told 0 #", 8), 1, 0, 0, 0, 10000, 0, -1, 0);
    }

    private void unpackNamesABox() {
        checks.about("Promise 9: a box that was made");
        due(MIXED + "; unpack 0", 4);
        due(MIXED + "; unpack 2", 6);
        badBeyond(MIXED, "unpack #", 0, 2);
        due(ALL_BOXES + "; unpack 59", 4);
        badBeyond(ALL_BOXES, "unpack #", 0, 59);
        changesNothing(FULL_LIST, "unpack 3", BAD);
        changesNothing("kern 1", "unpack 0", BAD);
    }

    private void unpackBringsAllOrNone() {
        checks.about("Promise 9: FULL (then none comes)");
        due("kern 1 x3; pack -1; kern 2 x37; unpack 0", 40);
        due("kern 1 x3; pack -1; kern 2 x37; unpack 0; natural", 77);
        changesNothing("kern 1 x3; pack -1; kern 2 x38", "unpack 0", FULL);
        changesNothing("kern 1 x3; pack -1; kern 2 x40", "unpack 0", FULL);
        changesNothing("kern 1 x40; pack -1; kern 2", "unpack 0", FULL);
        due("kern 1 x40; pack -1; unpack 0", 40);
        changesNothing("kern 1; pack -1; kern 2 x40", "unpack 0", FULL);
        due("kern 1; pack -1; kern 2 x39; unpack 0", 40);
        checks.about("Promise 9: of a box with nothing in it none comes");
        changesNothing("box 1 2 3", "unpack 0", 0);
        changesNothing("box 1 2 3; kern 2 x40", "unpack 0", 40);
        changesNothing("pack 5; kern 2 x40", "unpack 0", 40);
    }

    private void unpackLeavesTheBox() {
        checks.about("Promise 9: the box stays");
        String run = "box 7 1 1; glue 70 1 0 0 0; leaders 2 0; pack 77; ";
        String was = Runs.seen(run).split("\n")[1];
        for (String then : new String[] {"unpack 1", "unpack 1; leaders 3 0", "unpack 1; drop", "unpack 1; pack 5",
            "unpack 1; unpack 1; pack 5; unpack 2; leaders 1 1; pack 9"}) {
            boolean same = Runs.seen(run + then).split("\n")[1].equals(was);
            checks.due(run + then + ": the box is as it was", same ? 1 : 0, 1);
        }
        due(run + "unpack 1; boxes", 2);
        due(run + "unpack 1; drop; unpack 1", 1);
        due(run + "unpack 1; put 1 0", 2);
    }

    private void unpackedGlueIsAsItWasGiven() {
        checks.about("Promise 9: items come behind the list's, glue as it was given");
        String run = "box 7 4 2; put 0 3; glue 10 6 1 3 0; leaders 1 0; rule 2 -1000000 -1000000; ";
        for (String to : new String[] {"1000000", "0", "-1"}) {
            String again = run + "pack " + to + "; unpack 1; pack 40";
            checks.dueAll("lengths", Runs.each(again, "item 2 # 1", 3), 7, 31, 2);
            checks.dueAll("leaders", Runs.each(again, "item 2 # 3", 3), 0, 4, 0);
            checks.dueAll("heights", Runs.each(again, "item 2 # 6", 3), 1, 0, 1);
            checks.dueAll("depths", Runs.each(again, "item 2 # 7", 3), 5, 0, 5);
            due(run + "pack " + to + "; unpack 1; natural", 19);
        }
        checks.dueAll("behind", Runs.each(run + "pack 9; kern 1; unpack 1; pack 9", "item 2 # 0", 4), 3, 1, 2, 4);
    }

    private void toldNamesABoxAndAQuestion() {
        checks.about("Promise 10: a box that was made");
        checks.dueAll("first to last", Runs.each(MIXED, "told # 0", 3), 7, 0, 30);
        badBeyond(MIXED, "told # 0", 0, 2);
        badBeyond(ALL_BOXES, "told # 0", 0, 59);
        changesNothing("kern 1", "told 0 0", BAD);
        checks.about("Promise 10: 0 to 7");
        for (int box = 0; box < 3; box++) {
            badBeyond(MIXED, "told " + box + " #", 0, 7);
        }
        checks.dueAll("0 to 7", Runs.each(MIXED + "; pack 40", "told 3 #", 8), 40, 3, 9, 4, 100, 0, 0, 44);
        changesNothing(MIXED, "told 2 7", 13);
    }

    private void toldOfABoxThatBoxMade() {
        checks.about("Promise 10: for one that box() made 3 to 5 and 7 are 0, 6 is -1");
        checks.dueAll("least", Runs.each("box 0 0 0", "told 0 #", 8), 0, 0, 0, 0, 0, 0, -1, 0);
        checks.dueAll("greatest", Runs.each("box 100000 100000 100000", "told 0 #", 8),
            100000, 100000, 100000, 0, 0, 0, -1, 0);
        checks.dueAll("among others", Runs.each(MIXED, "told 0 #", 8), 7, 4, 2, 0, 0, 0, -1, 0);
        checks.about("Promise 10: 6 is -1 for none");
        due("glue 5 1 3 1 3; pack 5; told 0 6", -1);
        due("kern 5; pack 6; told 0 6", -1);
        due("kern 5; pack 4; told 0 6", -1);
        due("glue 5 0 3 1 3; pack 6; told 0 6", -1);
        due("glue 5 1 3 0 3; pack 4; told 0 6", -1);
        due("glue 5 1 3 1 2; pack 6; told 0 6", 3);
        due("glue 5 1 3 1 2; pack 4; told 0 6", 2);
        due("glue 5 1 3 1 0; pack 0; told 0 6", 0);
    }

    private void itemNamesABoxAnItemAndAQuestion() {
        checks.about("Promise 11: a box that was made");
        due(MIXED + "; item 2 0 0", 3);
        badBeyond(MIXED, "item # 0 0", 2, 2);
        badBeyond(MIXED, "item # 0 0", 0, 2);
        changesNothing("kern 1", "item 0 0 0", BAD);
        checks.about("Promise 11: an item of that box");
        checks.dueAll("sorts", Runs.each(MIXED + "; pack 40", "item 3 # 0", 4), 1, 4, 3, 2);
        badBeyond(MIXED, "item 2 # 0", 0, 1);
        badBeyond(MIXED + "; pack 40", "item 3 # 0", 0, 3);
        badBeyond(FULL_LIST + "; pack 40", "item 3 # 0", 0, 39);
        changesNothing(FULL_LIST + "; pack 40", "item 3 39 0", 2);
        changesNothing("box 1 2 3", "item 0 0 0", BAD);
        changesNothing("pack 5", "item 0 0 0", BAD);
        checks.about("Promise 11: 0 to 7");
        for (int i = 0; i < 4; i++) {
            badBeyond(MIXED + "; pack 40", "item 3 " + i + " #", 0, 7);
        }
        checks.dueAll("0 to 7", Runs.each(MIXED, "item 2 1 #", 8), 2, 27, 3, 3, 6, 7, 0, 0);
    }

    private void sizeNaturalAndBoxesCountOnlyWhatCame() {
        checks.about("Promises 12, 13, 15");
        changesNothing(MIXED, "size", 4);
        changesNothing(MIXED, "natural", 44);
        changesNothing(MIXED, "boxes", 3);
        due(FULL_LIST + "; size", 40);
        due(ALL_BOXES + "; boxes", 60);
        checks.about("Promise 13: the natural length has no bound of its own");
        due("kern 100000 x40; natural", 4000000);
        due("kern -100000 x40; natural", -4000000);
        due("pack 1000000; put 0 0 x40; natural", 40000000);
        due("kern 5; kern -5; natural", 0);
    }

    private void dropAnswersNoWithoutItems() {
        checks.about("Promise 14: the last item goes; NO");
        due("kern 1; drop", 0);
        changesNothing("kern 1; drop", "drop", NO);
        changesNothing("box 1 2 3", "drop", NO);
        changesNothing("kern 1; pack -1", "drop", NO);
        due(FULL_LIST + "; drop", 39);
        due(FULL_LIST + "; drop x40", 0);
        due(FULL_LIST + "; drop x41", NO);
        due("kern 1; kern 20; kern 300; drop; natural", 21);
        due("kern 1; box 1 2 3; drop; boxes", 1);
    }
}
