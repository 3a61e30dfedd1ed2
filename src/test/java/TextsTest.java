/** Promises 1 to 8: a new object, write, wipe, fault, lay, sign, fold, hint. */
public final class TextsTest {
    private static final Checks CHECKS = new Checks();
    private static final String FORTY = "abcdefghijklmnopqrstuvwxyz>/abcdefghij>/";

    public static void main(String[] args) {
        newObject();
        writeAndWipe();
        texts();
        signItems();
        foldItems();
        hintItems();
        flowItems();
        layTakesAll();
        layRefused();
        signs();
        folds();
        hints();
        CHECKS.end();
    }

    private static void due(String call, long got, long want) {
        CHECKS.due(call, got, want);
    }

    private static void faultOf(String text, int want) {
        DisplayMap x = new DisplayMap();
        Checks.write(x, text);
        due("fault of " + text, x.fault(), want);
        if (want == DisplayMap.NONE) {
            due("lay of " + text, x.lay(), x.count(0));
        } else {
            due("lay of " + text, x.lay(), DisplayMap.NO);
        }
    }

    private static void newObject() {
        DisplayMap x = new DisplayMap();
        CHECKS.dueAll("new signs", Checks.signs(x), "ab>cdefghij/klm>no/pqrstuvwxyz");
        CHECKS.dueAll("new folds", Checks.folds(x), "6,9! 18,21!");
        CHECKS.dueAll("new hints", Checks.hints(x), "3,2! 11,4!");
        CHECKS.dueAll("new rows", Checks.rows(x), "ab>==cd|.e#ij|.====|klm>>>n|.o#rstu|.vwxyz");
        int[] counts = {30, 2, 2, 6, 7, 2, 7, 1, 3, 0, 0, 0};
        for (int what = 0; what < counts.length; what++) {
            due("new count " + what, x.count(what), counts[what]);
        }
        due("new changed 0", x.changed(0), DisplayMap.NONE);
        due("new changed 1", x.changed(1), 0);
        due("new undo", x.undo(), DisplayMap.NO);
        due("new back", x.back(), DisplayMap.NO);
        due("new fault", x.fault(), DisplayMap.NONE);
    }

    private static void writeAndWipe() {
        DisplayMap x = new DisplayMap();
        due("write 31", x.write(31), DisplayMap.BAD);
        due("write 127", x.write(127), DisplayMap.BAD);
        due("write least", x.write(Integer.MIN_VALUE), DisplayMap.BAD);
        due("write most", x.write(Integer.MAX_VALUE), DisplayMap.BAD);
        due("write 32", x.write(32), 1);
        due("write 126", x.write(126), 2);
        for (int n = 3; n <= 200; n++) {
            due("write as " + n, x.write('a'), n);
        }
        due("write as 201", x.write('a'), DisplayMap.FULL);
        due("write bad as 201", x.write(0), DisplayMap.BAD);
        due("count 11", x.count(11), 200);
        due("fault without an end", x.fault(), 0);
        due("wipe", x.wipe(), 200);
        due("wipe empty", x.wipe(), 0);
        due("write behind wipe", x.write('t'), 1);
        CHECKS.dueAll("signs stay", Checks.signs(x), "ab>cdefghij/klm>no/pqrstuvwxyz");
    }

    private static void texts() {
        faultOf("", DisplayMap.NONE);
        faultOf("t;", DisplayMap.NONE);
        faultOf("t", 0);
        faultOf(";", 0);
        faultOf("tab;;", 4);
        faultOf("tab; b3;", 4);
        faultOf("tab;b3", 4);
        faultOf("tab;b3;x1;", 7);
        faultOf("tab;B3;", 4);
        faultOf("b9;x;", 0);
        faultOf("tab;b3;b9;b3;b0;", 7);
    }

    private static void signItems() {
        faultOf("t" + FORTY + ";", DisplayMap.NONE);
        faultOf("t" + FORTY + "a;", 0);
        faultOf("tA;", 0);
        faultOf("ta b;", 0);
        faultOf("t1;", 0);
        faultOf("ta;tb;", 3);
        faultOf("b3;ta;", 3);
        faultOf("t;t;", 2);
    }

    private static void foldItems() {
        faultOf("tabcd;f0,4;", DisplayMap.NONE);
        faultOf("tabcd;f0,5;", 6);
        faultOf("tabcd;f2,2;", 6);
        faultOf("tabcd;f3,2;", 6);
        faultOf("tabcd;f0,2;f2,4;", DisplayMap.NONE);
        faultOf("tabcd;f2,4;f0,2;", DisplayMap.NONE);
        faultOf("tabcd;f0,2;f1,4;", 11);
        faultOf("tabcd;f1,2;f0,4;", 11);
        faultOf("tabcd;f0,1;f1,2;f2,3;f3,4;", DisplayMap.NONE);
        faultOf("tabcde;f0,1;f1,2;f2,3;f3,4;f4,5;", 27);
        faultOf("f0,1;", 0);
        faultOf("tabcd;f0;", 6);
        faultOf("tabcd;f0,1,2;", 6);
        faultOf("tabcd;f0,;", 6);
        faultOf("tabcd;f,1;", 6);
        faultOf("tabcd;f;", 6);
        faultOf("tabcd;f00,04;", DisplayMap.NONE);
        faultOf("tabcd;f000,4;", 6);
        faultOf("tabcd;f-1,4;", 6);
        faultOf("tabcd;f0 ,4;", 6);
        faultOf("tabcd;f0,1,;", 6);
    }

    private static void hintItems() {
        faultOf("tab;h0,1;h2,5;", DisplayMap.NONE);
        faultOf("tab;h3,1;", 4);
        faultOf("tab;h0,0;", 4);
        faultOf("tab;h0,6;", 4);
        faultOf("tab;h1,2;h1,3;", 9);
        faultOf("tabcd;h0,1;h1,1;h2,1;h3,1;", DisplayMap.NONE);
        faultOf("tabcd;h0,1;h1,1;h2,1;h3,1;h4,1;", 26);
        faultOf("h0,1;", DisplayMap.NONE);
        faultOf("h1,1;", 0);
        faultOf("tab;h0;", 4);
        faultOf("tab;h0,1,1;", 4);
    }

    private static void flowItems() {
        faultOf("w0,4,0;", DisplayMap.NONE);
        faultOf("w2,20,3;", DisplayMap.NONE);
        faultOf("w3,4,0;", 0);
        faultOf("w0,3,0;", 0);
        faultOf("w0,21,0;", 0);
        faultOf("w0,4,4;", 0);
        faultOf("w0,4;", 0);
        faultOf("w0,4,0,0;", 0);
        faultOf("b1;", DisplayMap.NONE);
        faultOf("b8;", DisplayMap.NONE);
        faultOf("b08;", DisplayMap.NONE);
        faultOf("b0;", 0);
        faultOf("b9;", 0);
        faultOf("b;", 0);
        faultOf("b1,1;", 0);
    }

    private static void layTakesAll() {
        DisplayMap x = Checks.laid("tabcdefgh;h5,3;f4,6;b2;w0,9,1;h0,1;f1,3;b7;w1,10,3;");
        CHECKS.dueAll("laid signs", Checks.signs(x), "abcdefgh");
        CHECKS.dueAll("laid folds", Checks.folds(x), "1,3! 4,6!");
        CHECKS.dueAll("laid hints", Checks.hints(x), "0,1! 5,3");
        due("the last w: mode", x.count(5), 1);
        due("the last w: w", x.count(6), 10);
        due("the last w: i", x.count(7), 3);
        due("the last b", x.count(8), 7);
        due("the text stays", x.count(11), 51);
        x.insert(0, 0);
        x.keep();
        due("laid again", x.lay(), 8);
        due("nothing undone", x.count(9), 0);
        due("nothing kept", x.count(10), 0);
        due("nothing changed", x.changed(0), DisplayMap.NONE);
        due("no row changed", x.changed(1), 0);
        due("the text stays twice", x.count(11), 51);
        x.wipe();
        due("laid empty", x.lay(), 0);
        int[] counts = {0, 0, 0, 1, 0, 1, 8, 0, 4, 0, 0, 0};
        for (int what = 0; what < counts.length; what++) {
            due("empty count " + what, x.count(what), counts[what]);
        }
    }

    private static void layRefused() {
        DisplayMap x = Checks.laid("tabc;f0,2;h1,2;w1,4,0;");
        x.insert(3, 3);
        x.keep();
        Checks.write(x, "tzzz;f0,9;");
        due("fault", x.fault(), 5);
        due("refused", x.lay(), DisplayMap.NO);
        CHECKS.dueAll("signs stay", Checks.signs(x), "abcd");
        CHECKS.dueAll("folds stay", Checks.folds(x), "0,2!");
        due("undos stay", x.count(9), 1);
        due("keeps stay", x.count(10), 1);
        due("changed stays", x.changed(1), 1);
    }

    private static void signs() {
        DisplayMap x = Checks.laid("taz>/;");
        due("sign a", x.sign(0), 0);
        due("sign z", x.sign(1), 25);
        due("sign tab", x.sign(2), 26);
        due("sign end", x.sign(3), 27);
        due("sign last place", x.sign(4), DisplayMap.NONE);
        due("sign behind", x.sign(5), DisplayMap.BAD);
        due("sign -1", x.sign(-1), DisplayMap.BAD);
        due("sign most", x.sign(Integer.MAX_VALUE), DisplayMap.BAD);
        due("sign least", x.sign(Integer.MIN_VALUE), DisplayMap.BAD);
    }

    private static void folds() {
        DisplayMap x = Checks.laid("tabcdef;f3,6;f0,2;");
        due("fold 0 A", x.fold(0, 0), 0);
        due("fold 0 B", x.fold(0, 1), 2);
        due("fold 1 A", x.fold(1, 0), 3);
        due("fold 1 B", x.fold(1, 1), 6);
        due("fold shut", x.fold(1, 2), 1);
        x.toggle(1);
        due("fold open", x.fold(1, 2), 0);
        due("other fold shut", x.fold(0, 2), 1);
        due("fold 2", x.fold(2, 0), DisplayMap.BAD);
        due("fold -1", x.fold(-1, 0), DisplayMap.BAD);
        due("fold what 3", x.fold(0, 3), DisplayMap.BAD);
        due("fold what -1", x.fold(0, -1), DisplayMap.BAD);
    }

    private static void hints() {
        DisplayMap x = Checks.laid("tabcdef;f1,4;h4,5;h1,1;h3,2;h6,3;");
        CHECKS.dueAll("hints", Checks.hints(x), "1,1! 3,2 4,5! 6,3!");
        x.toggle(0);
        CHECKS.dueAll("hints of an open fold", Checks.hints(x), "1,1! 3,2! 4,5! 6,3!");
        due("hint 4", x.hint(4, 0), DisplayMap.BAD);
        due("hint -1", x.hint(-1, 0), DisplayMap.BAD);
        due("hint what 3", x.hint(0, 3), DisplayMap.BAD);
        due("hint what -1", x.hint(0, -1), DisplayMap.BAD);
    }
}
