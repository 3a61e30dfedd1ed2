/** Promises 9 to 18: insert, erase, toggle, make, unfold, set, unset, wide, tabs, undo. */
public final class ActsTest {
    private static final Checks CHECKS = new Checks();

    public static void main(String[] args) {
        insert();
        insertAmongFolds();
        insertAmongHints();
        erase();
        eraseAmongFolds();
        eraseAmongHints();
        toggle();
        make();
        unfold();
        set();
        unset();
        wide();
        tabs();
        undo();
        undoEight();
        refusalsChangeNothing();
        CHECKS.end();
    }

    private static void due(String call, long got, long want) {
        CHECKS.due(call, got, want);
    }

    private static void insert() {
        DisplayMap x = Checks.laid("tab;");
        due("insert first", x.insert(0, 25), 3);
        due("insert last", x.insert(3, 27), 4);
        due("insert between", x.insert(1, 26), 5);
        CHECKS.dueAll("signs", Checks.signs(x), "z>ab/");
        due("insert behind the last place", x.insert(6, 0), DisplayMap.BAD);
        due("insert -1", x.insert(-1, 0), DisplayMap.BAD);
        due("insert sign 28", x.insert(0, 28), DisplayMap.BAD);
        due("insert sign -1", x.insert(0, -1), DisplayMap.BAD);
        for (int n = 6; n <= 40; n++) {
            due("insert as " + n, x.insert(n - 1, 2), n);
        }
        due("insert as 41", x.insert(0, 2), DisplayMap.FULL);
        due("insert as 41 at 41", x.insert(41, 2), DisplayMap.BAD);
        due("insert as 41 sign 28", x.insert(0, 28), DisplayMap.BAD);
        due("signs stay", x.count(0), 40);
    }

    private static void insertAmongFolds() {
        String[] wants = {"2,4! 4,6", "2,4! 4,6", "1,4! 4,6", "1,3! 4,6", "1,3! 3,6", "1,3! 3,5", "1,3! 3,5"};
        for (int at = 0; at < wants.length; at++) {
            DisplayMap x = Checks.laid("tabcdef;f1,3;f3,5;");
            x.toggle(1);
            due("insert at " + at, x.insert(at, 25), 7);
            CHECKS.dueAll("folds behind insert at " + at, Checks.folds(x), wants[at]);
        }
    }

    private static void insertAmongHints() {
        String[] wants = {"2,1! 3,2! 4,3!", "2,1! 3,2! 4,3!", "1,1! 3,2! 4,3!", "1,1! 2,2! 4,3!"};
        for (int at = 0; at < wants.length; at++) {
            DisplayMap x = Checks.laid("tabc;h1,1;h2,2;h3,3;");
            due("insert at " + at, x.insert(at, 25), 4);
            CHECKS.dueAll("hints behind insert at " + at, Checks.hints(x), wants[at]);
        }
    }

    private static void erase() {
        DisplayMap x = Checks.laid("tab>/z;");
        due("erase tab", x.erase(2), 26);
        due("erase end", x.erase(2), 27);
        due("erase z", x.erase(2), 25);
        CHECKS.dueAll("signs", Checks.signs(x), "ab");
        due("erase the last place", x.erase(2), DisplayMap.BAD);
        due("erase 3", x.erase(3), DisplayMap.BAD);
        due("erase -1", x.erase(-1), DisplayMap.BAD);
        due("erase a", x.erase(0), 0);
        due("erase b", x.erase(0), 1);
        due("erase nothing", x.erase(0), DisplayMap.BAD);
        due("rows", x.count(3), 1);
    }

    private static void eraseAmongFolds() {
        String[] wants = {"0,2! 2,3!", "1,2! 2,3!", "1,2! 2,3!", "1,3!", "1,3! 3,4!"};
        for (int at = 0; at < wants.length; at++) {
            DisplayMap x = Checks.laid("tabcde;f1,3;f3,4;");
            due("erase at " + at, x.erase(at), at);
            CHECKS.dueAll("folds behind erase at " + at, Checks.folds(x), wants[at]);
        }
        DisplayMap x = Checks.laid("tabcd;f0,1;f1,2;f2,3;f3,4;");
        x.toggle(2);
        x.erase(1);
        CHECKS.dueAll("folds behind the one that went", Checks.folds(x), "0,1! 1,2 2,3!");
    }

    private static void eraseAmongHints() {
        String[] wants = {"0,1! 1,2! 3,4!", "1,2! 3,4!", "1,1! 2,2! 3,4!", "1,1! 2,2! 3,4!"};
        for (int at = 0; at < wants.length; at++) {
            DisplayMap x = Checks.laid("tabcd;h1,1;h2,2;h4,4;");
            due("erase at " + at, x.erase(at), at);
            CHECKS.dueAll("hints behind erase at " + at, Checks.hints(x), wants[at]);
        }
        DisplayMap x = Checks.laid("tab;h1,3;");
        x.erase(1);
        CHECKS.dueAll("hint ahead of the last place", Checks.hints(x), "1,3!");
        x = Checks.laid("tab;h1,3;h2,5;");
        x.erase(1);
        CHECKS.dueAll("the hint of the last place stays", Checks.hints(x), "1,5!");
    }

    private static void toggle() {
        DisplayMap x = Checks.laid("tabcdef;f0,2;f3,5;w0,4,0;");
        CHECKS.dueAll("shut", Checks.rows(x), "#c#f");
        due("open", x.toggle(1), 0);
        CHECKS.dueAll("one open", Checks.rows(x), "#cdef");
        due("shut again", x.toggle(1), 1);
        CHECKS.dueAll("shut again", Checks.rows(x), "#c#f");
        due("toggle 2", x.toggle(2), DisplayMap.BAD);
        due("toggle -1", x.toggle(-1), DisplayMap.BAD);
    }

    private static void make() {
        DisplayMap x = Checks.laid("tabcdefghij;w0,4,0;");
        due("make 4 6", x.make(4, 6), 0);
        due("make 0 2", x.make(0, 2), 0);
        due("make 6 10", x.make(6, 10), 2);
        CHECKS.dueAll("folds", Checks.folds(x), "0,2! 4,6! 6,10!");
        CHECKS.dueAll("rows", Checks.rows(x), "#cd##");
        due("make over one", x.make(1, 3), DisplayMap.NO);
        due("make over all", x.make(0, 10), DisplayMap.NO);
        due("make within one", x.make(7, 8), DisplayMap.NO);
        due("make the same", x.make(4, 6), DisplayMap.NO);
        due("make nothing", x.make(3, 3), DisplayMap.BAD);
        due("make backwards", x.make(4, 3), DisplayMap.BAD);
        due("make too far", x.make(3, 11), DisplayMap.BAD);
        due("make too far over one", x.make(0, 11), DisplayMap.BAD);
        due("make -1", x.make(-1, 3), DisplayMap.BAD);
        due("make 2 3", x.make(2, 3), 1);
        due("make a fifth", x.make(3, 4), DisplayMap.FULL);
        due("make a fifth over one", x.make(3, 5), DisplayMap.NO);
        due("make a bad fifth", x.make(4, 4), DisplayMap.BAD);
        due("folds", x.count(1), 4);
    }

    private static void unfold() {
        DisplayMap x = Checks.laid("tabcdef;f0,2;f2,4;f4,6;w0,4,0;");
        x.toggle(2);
        due("unfold 3", x.unfold(3), DisplayMap.BAD);
        due("unfold -1", x.unfold(-1), DisplayMap.BAD);
        due("unfold 1", x.unfold(1), 2);
        CHECKS.dueAll("folds", Checks.folds(x), "0,2! 4,6");
        CHECKS.dueAll("rows", Checks.rows(x), "#cdef");
        due("unfold 1", x.unfold(1), 1);
        due("unfold 0", x.unfold(0), 0);
        due("unfold none", x.unfold(0), DisplayMap.BAD);
        due("signs stay", x.count(0), 6);
    }

    private static void set() {
        DisplayMap x = Checks.laid("tabcd;w0,4,0;");
        due("set 2", x.set(2, 1), 0);
        due("set 0", x.set(0, 2), 0);
        due("set last", x.set(4, 5), 2);
        CHECKS.dueAll("rows", Checks.rows(x), "==ab=cd=====");
        due("set twice", x.set(2, 3), DisplayMap.NO);
        due("set 5", x.set(5, 1), DisplayMap.BAD);
        due("set -1", x.set(-1, 1), DisplayMap.BAD);
        due("set of 0", x.set(1, 0), DisplayMap.BAD);
        due("set of 6", x.set(1, 6), DisplayMap.BAD);
        due("set twice of 6", x.set(2, 6), DisplayMap.BAD);
        due("set 3", x.set(3, 4), 2);
        due("set a fifth", x.set(1, 1), DisplayMap.FULL);
        due("set a fifth twice", x.set(0, 1), DisplayMap.NO);
        due("set a bad fifth", x.set(1, 6), DisplayMap.BAD);
        CHECKS.dueAll("hints", Checks.hints(x), "0,2! 2,1! 3,4! 4,5!");
    }

    private static void unset() {
        DisplayMap x = Checks.laid("tabc;h0,1;h1,2;h3,3;w0,4,0;");
        due("unset 3", x.unset(3), DisplayMap.BAD);
        due("unset -1", x.unset(-1), DisplayMap.BAD);
        due("unset 1", x.unset(1), 2);
        CHECKS.dueAll("hints", Checks.hints(x), "0,1! 3,3!");
        CHECKS.dueAll("rows", Checks.rows(x), "=abc===");
        due("unset 1", x.unset(1), 3);
        due("unset 0", x.unset(0), 1);
        due("unset none", x.unset(0), DisplayMap.BAD);
    }

    private static void wide() {
        DisplayMap x = Checks.laid("tabcdefghij;w1,4,0;");
        CHECKS.dueAll("w 4", Checks.rows(x), "abcd|efgh|ij");
        due("wide the same", x.wide(1, 4, 0), DisplayMap.NO);
        due("wide i", x.wide(1, 4, 3), 1);
        CHECKS.dueAll("i 3", Checks.rows(x), "abcd|...e|...f|...g|...h|...i|...j");
        due("wide w", x.wide(1, 20, 3), 1);
        CHECKS.dueAll("w 20", Checks.rows(x), "abcdefghij");
        due("wide mode", x.wide(0, 20, 3), 1);
        due("mode", x.count(5), 0);
        due("wide mode 3", x.wide(3, 20, 3), DisplayMap.BAD);
        due("wide mode -1", x.wide(-1, 20, 3), DisplayMap.BAD);
        due("wide w 3", x.wide(0, 3, 3), DisplayMap.BAD);
        due("wide w 21", x.wide(0, 21, 3), DisplayMap.BAD);
        due("wide i 4", x.wide(0, 20, 4), DisplayMap.BAD);
        due("wide i -1", x.wide(0, 20, -1), DisplayMap.BAD);
        due("wide to words", x.wide(2, 4, 0), 1);
        due("undos", x.count(9), 4);
    }

    private static void tabs() {
        DisplayMap x = Checks.laid("ta>b;w0,4,0;");
        CHECKS.dueAll("by 4", Checks.rows(x), "a>>>b");
        due("tabs 4", x.tabs(4), DisplayMap.NO);
        due("tabs 1", x.tabs(1), 4);
        CHECKS.dueAll("by 1", Checks.rows(x), "a>b");
        due("tabs 8", x.tabs(8), 1);
        CHECKS.dueAll("by 8", Checks.rows(x), "a>>>>>>>b");
        due("tabs 0", x.tabs(0), DisplayMap.BAD);
        due("tabs 9", x.tabs(9), DisplayMap.BAD);
        due("tabs least", x.tabs(Integer.MIN_VALUE), DisplayMap.BAD);
        due("tabs stay", x.count(8), 8);
    }

    /** The n-th of eight acts of all kinds but one. */
    private static int act(DisplayMap x, int n) {
        switch (n) {
            case 0: return x.erase(6);
            case 1: return x.insert(2, 26);
            case 2: return x.toggle(0);
            case 3: return x.unfold(1);
            case 4: return x.make(7, 9);
            case 5: return x.unset(0);
            case 6: return x.set(9, 5);
            default: return x.wide(1, 9, 2);
        }
    }

    private static DisplayMap acted(int acts) {
        DisplayMap x = Checks.laid("tab/cdefgh;f1,3;f5,7;h0,2;h6,3;w2,5,1;b3;");
        int[] answers = {5, 9, 0, 1, 1, 2, 1, 1};
        for (int n = 0; n < acts; n++) {
            due("act " + n, act(x, n), answers[n]);
        }
        return x;
    }

    private static void undo() {
        for (int left = 8; left >= 0; left--) {
            DisplayMap x = acted(8);
            for (int n = 7; n >= left; n--) {
                due("undo to " + n, x.undo(), n);
            }
            due("count 9", x.count(9), left);
            CHECKS.dueAll("undone to " + left, Checks.all(x), Checks.all(acted(left)));
        }
        DisplayMap x = acted(0);
        due("undo nothing", x.undo(), DisplayMap.NO);
        x.tabs(8);
        due("undo tabs", x.undo(), 0);
        due("tabs undone", x.count(8), 3);
    }

    private static void undoEight() {
        DisplayMap x = Checks.laid("t;");
        for (int n = 1; n <= 10; n++) {
            x.insert(n - 1, n);
            due("can be undone", x.count(9), Math.min(n, 8));
        }
        for (int n = 7; n >= 0; n--) {
            due("undo", x.undo(), n);
        }
        due("undo a ninth", x.undo(), DisplayMap.NO);
        CHECKS.dueAll("two are left", Checks.signs(x), "bc");
        due("insert behind undo", x.insert(0, 0), 3);
        due("one can be undone", x.count(9), 1);
    }

    private static void refusalsChangeNothing() {
        DisplayMap x = Checks.laid("tabcdef;f0,2;h3,1;w1,4,0;");
        x.insert(6, 6);
        String before = Checks.all(x) + x.changed(0) + x.changed(1) + x.count(9);
        x.insert(9, 0);
        x.erase(7);
        x.toggle(1);
        x.make(1, 3);
        x.unfold(1);
        x.set(3, 1);
        x.unset(1);
        x.wide(1, 4, 0);
        x.tabs(4);
        x.tabs(9);
        CHECKS.dueAll("refused acts", Checks.all(x) + x.changed(0) + x.changed(1) + x.count(9), before);
    }
}
