/** Promises 25 to 31: fit, saves, tight, day, keep, back, count. */
public final class WouldBeTest {
    private static final Checks CHECKS = new Checks();

    public static void main(String[] args) {
        fit();
        saves();
        tight();
        day();
        dayByHand();
        wholeDays();
        keepAndBack();
        count();
        askingChangesNothing();
        CHECKS.end();
    }

    private static void due(String call, long got, long want) {
        CHECKS.due(call, got, want);
    }

    private static void fit() {
        DisplayMap x = Checks.laid("tabcdefghijkl;w1,9,0;");
        int[] wants = {12, 6, 4, 4};
        for (int k = 1; k <= wants.length; k++) {
            due("fit " + k, x.fit(k), wants[k - 1]);
        }
        due("fit 40", x.fit(40), 4);
        due("fit 0", x.fit(0), DisplayMap.BAD);
        due("fit 41", x.fit(41), DisplayMap.BAD);
        due("fit -1", x.fit(-1), DisplayMap.BAD);
        due("w stays", x.count(6), 9);
        x = Checks.laid("tabcdefghijkl;w1,9,3;");
        due("fit with indent", x.fit(2), 8);
        x = Checks.laid("tabcdefghijklmnopqrst;f2,3;w1,9,0;");
        due("20 columns, one row", x.fit(1), 20);
        x = Checks.laid("tabcdefghijklmnopqrstu;w1,9,0;");
        due("21 letters, one row", x.fit(1), DisplayMap.NONE);
        due("21 letters, two rows", x.fit(2), 11);
        x = Checks.laid("ta/b/c;w1,9,0;");
        due("three lines in two rows", x.fit(2), DisplayMap.NONE);
        due("three lines in three rows", x.fit(3), 4);
        x = Checks.laid("tabcdefghijklmnopqrstu;w0,9,0;");
        due("never below", x.fit(1), 4);
        x = Checks.laid("tab>cdefgh;w2,20,0;b4;");
        // w 4: ab>> cdef gh; w 5: ab>>c defgh, the word being too wide to go on whole; w 6: ab>> cdefgh
        due("by words in two rows", x.fit(2), 5);
        due("by words in one row", x.fit(1), 10);
    }

    private static void saves() {
        DisplayMap x = Checks.laid("tab/c/d/efgh;f0,1;f2,5;f6,7;f8,11;w1,4,0;");
        due("none open", x.saves(0), DisplayMap.NONE);
        due("none open, rows", x.saves(1), DisplayMap.NONE);
        for (int f = 0; f < 4; f++) {
            x.toggle(f);
        }
        // 4 rows; shut, fold 1 joins three lines (ab#d), fold 2 joins none
        CHECKS.dueAll("rows", Checks.rows(x), "ab|c|d|efgh");
        due("saves", x.saves(0), 1);
        due("rows then", x.saves(1), 2);
        x.toggle(1);
        due("of those left the first", x.saves(0), 0);
        due("rows of it", x.saves(1), 2);
        due("saves what 2", x.saves(2), DisplayMap.BAD);
        due("saves what -1", x.saves(-1), DisplayMap.BAD);
        x = Checks.laid("tab;");
        due("no fold", x.saves(0), DisplayMap.NONE);
        due("no fold, rows", x.saves(1), DisplayMap.NONE);
        // shut one at a time: #bc>>> | >>>d, abc#>> | d, abc>>> | #d
        x = Checks.laid("tabc>>d;f0,1;f3,4;f4,5;w1,6,0;b3;");
        for (int f = 0; f < 3; f++) {
            x.toggle(f);
        }
        CHECKS.dueAll("rows of tabs", Checks.rows(x), "abc>>>|>>>d");
        due("the first of two that save none", x.saves(0), 0);
        due("rows as they are", x.saves(1), 2);
    }

    private static void tight() {
        DisplayMap x = Checks.laid("tabcd/ef;w1,4,0;");
        CHECKS.dueAll("tight", Checks.tight(x), "0 1 2 3 4");
        due("tight -1", x.tight(-1), 5);
        due("tight 5", x.tight(5), DisplayMap.NONE);
        due("tight most", x.tight(Integer.MAX_VALUE), DisplayMap.NONE);
        due("tight -2", x.tight(-2), DisplayMap.BAD);
        due("tight least", x.tight(Integer.MIN_VALUE), DisplayMap.BAD);
        x = Checks.laid("tabcdef;f1,3;w1,5,0;");
        CHECKS.dueAll("a shut fold has room within", Checks.tight(x), "0 1 3 4 5 6");
        x = Checks.laid("tabcd;w1,4,0;");
        CHECKS.dueAll("the last place, too", Checks.tight(x), "0 1 2 3 4");
        x = Checks.laid("tabcd;w0,4,0;");
        due("never below", x.tight(-1), 0);
        due("none is the first", x.tight(0), DisplayMap.NONE);
        x = Checks.laid("tabcdefghijklmnopqrstabcdefghijklmnopqrst;w1,4,0;");
        due("40 signs", x.count(0), 40);
        due("no room", x.tight(-1), 0);
        due("no room, the first", x.tight(0), DisplayMap.NONE);
        x.erase(0);
        due("39 signs leave room in the last row", x.tight(-1), 0);
        x.set(39, 1);
        due("40 columns are full", x.tight(-1), 40);
    }

    private static void day() {
        DisplayMap x = new DisplayMap();
        due("day z -1", x.day(-1, 1, 0), DisplayMap.BAD);
        due("day z 10000", x.day(10000, 1, 0), DisplayMap.BAD);
        due("day n 0", x.day(0, 0, 0), DisplayMap.BAD);
        due("day n 41", x.day(0, 41, 0), DisplayMap.BAD);
        due("day what -1", x.day(0, 1, -1), DisplayMap.BAD);
        due("day what 3", x.day(0, 1, 3), DisplayMap.BAD);
    }

    private static void dayByHand() {
        DisplayMap x = Checks.laid("tabc;w1,4,0;");
        // z 0, k 0: x 1, draw 1: letter 0 at place 0
        due("day 0 1 signs", x.day(0, 1, 0), 4);
        due("day 0 1 rows", x.day(0, 1, 1), 1);
        due("day 0 1 columns", x.day(0, 1, 2), 4);
        // k 1: x 6152, x * x = 37847104, draw 37847104 - 577 * 65521 = 41487, modulo 4: 3, a fold: there is none
        due("day 0 2 signs", x.day(0, 2, 0), 4);
        x.make(0, 3);
        // the letter comes ahead of the fold: a#; then fold 41487 / 8 modulo 1 is opened: aabc
        due("fold shut ahead", x.day(0, 1, 2), 2);
        due("fold opened then", x.day(0, 2, 2), 4);
        x = Checks.laid("tabcdefghijklmnopqrstabcdefghijklmnopqrst;w1,4,0;");
        due("no room", x.day(0, 1, 0), 40);
        // z 1, k 0: x 7920, x * x = 62726400, draw 62726400 - 957 * 65521 = 22803, modulo 4: 3
        due("a fold that is none", x.day(1, 1, 0), 40);
        x = Checks.laid("t;w1,4,0;");
        // z 3, k 0: x 23758, x * x = 564442564, draw 564442564 - 8614 * 65521 = 44670, modulo 4: 2
        due("no sign to take out", x.day(3, 1, 0), 0);
        due("rows of nothing", x.day(3, 1, 1), 1);
        due("columns of nothing", x.day(3, 1, 2), 0);
        x = Checks.laid("tabcd;h2,3;w1,4,0;");
        // 44670 / 256 = 174, modulo 4: 2, so c is taken out: ab===d
        due("one taken out", x.day(3, 1, 0), 3);
        due("rows of ab | ===d", x.day(3, 1, 1), 2);
        due("columns of ab | ===d", x.day(3, 1, 2), 4);
    }

    private static void wholeDays() {
        DisplayMap x = Checks.laid("tabcd;w0,4,0;b8;");
        // 9999: abcd, abqcd, abgqcd, .., bgxgzqfheedlqaal; 0: uddgwa/>wuxwf; 12: wqwgpyugrbgrec/vav
        int[][] wants = {
            {9999, 1, 4, 1, 4}, {9999, 2, 5, 1, 5}, {9999, 3, 6, 1, 6}, {9999, 40, 16, 1, 16},
            {0, 40, 13, 2, 13}, {12, 40, 18, 2, 14}};
        for (int[] w : wants) {
            for (int what = 0; what < 3; what++) {
                due("day " + w[0] + " " + w[1] + " " + what, x.day(w[0], w[1], what), w[2 + what]);
            }
        }
    }

    private static void keepAndBack() {
        DisplayMap x = Checks.laid("tab/cdef;f1,3;h4,2;w2,5,1;b3;");
        due("back without", x.back(), DisplayMap.NO);
        String first = Checks.all(x);
        due("keep", x.keep(), 1);
        x.insert(0, 3);
        x.toggle(0);
        x.unset(0);
        x.wide(1, 9, 0);
        x.tabs(8);
        String second = Checks.all(x);
        due("keep a second", x.keep(), 2);
        due("keep a third", x.keep(), DisplayMap.FULL);
        due("kept", x.count(10), 2);
        due("undos stay", x.count(9), 5);
        x.erase(0);
        x.unfold(0);
        due("back", x.back(), 1);
        CHECKS.dueAll("back to the second", Checks.all(x), second);
        due("nothing is undone", x.undo(), DisplayMap.NO);
        due("nothing changed", x.changed(0), DisplayMap.NONE);
        due("no row changed", x.changed(1), 0);
        x.erase(0);
        due("back again", x.back(), 0);
        CHECKS.dueAll("back to the first", Checks.all(x), first);
        due("back no more", x.back(), DisplayMap.NO);
        due("keep anew", x.keep(), 1);
        x.erase(0);
        due("undo does not touch it", x.undo(), 0);
        due("kept stays", x.count(10), 1);
    }

    private static void count() {
        DisplayMap x = Checks.laid("tabcd/efg;f0,2;h3,2;h7,1;w2,6,3;b5;");
        x.insert(0, 5);
        x.keep();
        CHECKS.dueAll("rows", Checks.rows(x), "f#c==d|ef=g");
        int[] counts = {9, 1, 2, 2, 6, 2, 6, 3, 5, 1, 1, 35};
        for (int what = 0; what < counts.length; what++) {
            due("count " + what, x.count(what), counts[what]);
        }
        due("count 12", x.count(12), DisplayMap.BAD);
        due("count -1", x.count(-1), DisplayMap.BAD);
    }

    private static void askingChangesNothing() {
        DisplayMap x = Checks.laid("tab/cdefgh;f1,3;f4,6;h4,2;w1,5,1;b3;");
        x.toggle(1);
        String before = Checks.all(x) + x.changed(0) + x.changed(1) + x.count(9);
        x.fit(1);
        x.saves(0);
        x.tight(-1);
        x.day(77, 40, 0);
        x.fault();
        x.keep();
        CHECKS.dueAll("asked", Checks.all(x) + x.changed(0) + x.changed(1) + x.count(9), before);
    }
}
