/** Part 2 and promises 19 to 24: how all stands, stands, place, screen, go, row, changed. */
public final class ScreenTest {
    private static final Checks CHECKS = new Checks();

    public static void main(String[] args) {
        widths();
        byColumns();
        byWords();
        foldsOnScreen();
        hintsOnScreen();
        stands();
        place();
        placeWithEnds();
        screen();
        go();
        goFar();
        row();
        changed();
        changedByUndo();
        CHECKS.end();
    }

    private static void due(String call, long got, long want) {
        CHECKS.due(call, got, want);
    }

    private static void rowsOf(String text, String want) {
        CHECKS.dueAll("rows of " + text, Checks.rows(Checks.laid(text)), want);
    }

    private static void widths() {
        rowsOf("t>a>bc>def>;w0,4,0;b3;", ">>>a>>bc>def>>>");
        rowsOf("t>>;w0,4,0;b1;", ">>");
        rowsOf("ta/>b//c/;w0,4,0;", "a|>>>>b||c|");
        rowsOf("tab;h0,5;h1,3;h2,1;w0,4,0;", "=====a===b=");
        rowsOf("t;h0,5;w1,4,3;", "=====");
    }

    private static void byColumns() {
        rowsOf("tabcd;w1,4,0;", "abcd");
        rowsOf("tabcde;w1,4,0;", "abcd|e");
        rowsOf("tabcdef;w1,4,2;", "abcd|..ef");
        rowsOf("tabcd/e;w1,4,2;", "abcd|e");
        rowsOf("tabcd/;w1,4,2;", "abcd|");
        // a tab reaches to the next stop of its own row
        rowsOf("tabcd>e;w1,4,1;b3;", "abcd|.>>e");
        rowsOf("tabc>d;w1,5,1;b4;", "abc>d");
        rowsOf("tabcd>e;w1,5,1;b4;", "abcd|.>>>e");
        // what is wider than a row stands alone in it
        rowsOf("t>a;w1,4,0;b8;", ">>>>>>>>|a");
        rowsOf("tab;h1,5;w1,4,3;", "a|...=====|...b");
        // behind a hint that reaches too far an end stays
        rowsOf("ta/b;h1,5;w1,4,3;", "a|...=====|b");
    }

    private static void byWords() {
        rowsOf("tabc>def;w2,6,0;b4;", "abc>|def");
        rowsOf("tabc>de;w2,6,0;b4;", "abc>de");
        // a word of w less i goes on below, a wider one is cut by columns
        rowsOf("tabc>defg;w2,6,2;b4;", "abc>|..defg");
        rowsOf("tabc>defgh;w2,6,2;b4;", "abc>de|..fgh");
        rowsOf("tabcdefgh;w2,6,2;", "abcdef|..gh");
        // hints and fold signs belong to words
        rowsOf("ta>bcd;h4,2;w2,5,0;b3;", "a>>|bc==d");
        rowsOf("ta>bcdefg;f3,6;w2,5,0;b3;", "a>>|b#fg");
        rowsOf("ta>b>;h3,3;w2,6,0;b3;", "a>>|b===>>");
        // the hint ahead of a word begins it
        rowsOf("ta>bc;h2,2;w2,6,1;b3;", "a>>|.==bc");
        // a tab goes on by columns
        rowsOf("tabcde>f;w2,5,1;b4;", "abcde|.>>>f");
        // the first of a row does not go on
        rowsOf("tabcdefgh/ij>kl;w2,4,0;b2;", "abcd|efgh|ij>>|kl");
        // a fold sign joins lines to one word
        rowsOf("tab>c/de;f3,5;w2,5,0;b3;", "ab>|#de");
    }

    private static void foldsOnScreen() {
        rowsOf("tab/cd/ef;f1,4;w0,4,0;", "a#d|ef");
        rowsOf("tab;f0,2;w1,4,0;", "#");
        rowsOf("tabcd;f0,2;f2,4;w1,4,0;", "##");
        // hints of a shut fold do not stand there, but the one of its first place
        rowsOf("tabcd;f1,3;h1,2;h2,3;h3,1;w0,4,0;", "a==#=d");
    }

    private static void hintsOnScreen() {
        DisplayMap x = Checks.laid("tabcd;f1,3;h1,2;h2,3;h3,1;w0,4,0;");
        due("hint at the first place of a fold", x.hint(0, 2), 1);
        due("hint within a fold", x.hint(1, 2), 0);
        due("hint behind a fold", x.hint(2, 2), 1);
    }

    private static void stands() {
        DisplayMap x = Checks.laid("tab/cd/ef;f1,4;h1,2;h3,3;w1,4,0;");
        CHECKS.dueAll("stands", Checks.stands(x), "0:0 0:3 0:3 0:3 1:0 1:1 2:0 2:1 2:2");
        int[] shown = {1, 1, 0, 0, 1, 1, 1, 1, 1};
        for (int p = 0; p < shown.length; p++) {
            due("shown " + p, x.stands(p, 2), shown[p]);
        }
        x.toggle(0);
        for (int p = 0; p < shown.length; p++) {
            due("shown open " + p, x.stands(p, 2), 1);
        }
        due("stands 9", x.stands(9, 0), DisplayMap.BAD);
        due("stands -1", x.stands(-1, 0), DisplayMap.BAD);
        due("stands what 3", x.stands(0, 3), DisplayMap.BAD);
        due("stands what -1", x.stands(0, -1), DisplayMap.BAD);
        x = Checks.laid("tabcd;w1,4,2;");
        due("the last place does not go on: row", x.stands(4, 0), 0);
        due("the last place does not go on: column", x.stands(4, 1), 4);
        x.set(4, 1);
        due("behind its hint: row", x.stands(4, 0), 1);
        due("behind its hint: column", x.stands(4, 1), 3);
    }

    private static void place() {
        // rows: ab== | .#f= | .ghi
        DisplayMap x = Checks.laid("tabcdefghi;f2,5;h2,2;h6,1;w1,4,1;");
        CHECKS.dueAll("rows", Checks.rows(x), "ab==|.#f=|.ghi");
        int[][] wants = {{0, 1, 2, 2, 2, 2}, {2, 2, 5, 6, 6, 6}, {6, 6, 7, 8, 9, 9}};
        for (int r = 0; r < wants.length; r++) {
            for (int c = 0; c < wants[r].length; c++) {
                due("place " + r + " " + c, x.place(r, c), wants[r][c]);
            }
        }
        due("place 2 99", x.place(2, 99), 9);
        due("place 2 100", x.place(2, 100), DisplayMap.BAD);
        due("place 2 -1", x.place(2, -1), DisplayMap.BAD);
        due("place 3 0", x.place(3, 0), DisplayMap.BAD);
        due("place -1 0", x.place(-1, 0), DisplayMap.BAD);
    }

    private static void placeWithEnds() {
        DisplayMap x = Checks.laid("ta>//b/;w1,8,0;");
        due("on a tab", x.place(0, 1), 1);
        due("on a tab's last column", x.place(0, 3), 1);
        due("behind all: the end", x.place(0, 4), 2);
        due("an empty line", x.place(1, 0), 3);
        due("behind an empty line", x.place(1, 7), 3);
        due("the end", x.place(2, 1), 5);
        due("the last place alone", x.place(3, 0), 6);
        due("behind the last place", x.place(3, 50), 6);
        x = Checks.laid("tabcde/;f1,3;h5,4;w1,5,1;");
        CHECKS.dueAll("rows", Checks.rows(x), "a#de|.====|");
        due("a row that goes on ends with its last", x.place(0, 9), 4);
        due("behind the hint of an end", x.place(1, 9), 5);
        x = Checks.laid("tabcdef;f2,6;w1,4,0;h6,5;");
        CHECKS.dueAll("rows", Checks.rows(x), "ab#|=====");
        due("a fold sign last in a row", x.place(0, 9), 2);
    }

    private static void screen() {
        DisplayMap x = Checks.laid("taz>bcd/;f3,5;h5,2;w1,6,1;b4;");
        CHECKS.dueAll("rows", Checks.rows(x), "az>>#|.==d|");
        int[] first = {0, 25, 26, 26, 28, -4, -4};
        int[] second = {-4, 29, 29, 3, -4, -4, -4};
        for (int c = 0; c < first.length; c++) {
            due("screen 0 " + c, x.screen(0, c), first[c]);
            due("screen 1 " + c, x.screen(1, c), second[c]);
        }
        due("screen of an empty row", x.screen(2, 0), DisplayMap.NONE);
        due("screen 0 99", x.screen(0, 99), DisplayMap.NONE);
        due("screen 0 100", x.screen(0, 100), DisplayMap.BAD);
        due("screen 0 -1", x.screen(0, -1), DisplayMap.BAD);
        due("screen 3 0", x.screen(3, 0), DisplayMap.BAD);
        due("screen -1 0", x.screen(-1, 0), DisplayMap.BAD);
    }

    private static void go() {
        // rows: a#e | fg>>h | (the last place)
        DisplayMap x = Checks.laid("tabcde/fg>h/;f1,4;w1,8,0;b4;");
        CHECKS.dueAll("rows", Checks.rows(x), "a#e|fg>>h|");
        int[][] wants = {
            {1, -4, -4, 6}, {4, 0, -4, 7}, {4, 1, -4, 7}, {4, 1, -4, 7}, {5, 1, -4, 8}, {6, 4, -4, 8},
            {7, 5, 0, 11}, {8, 6, 1, 11}, {9, 7, 4, 11}, {10, 8, 5, 11}, {11, 9, 5, 11}, {-4, 10, 6, -4}};
        for (int at = 0; at < wants.length; at++) {
            for (int way = 0; way < 4; way++) {
                due("go " + at + " " + way, x.go(at, way), wants[at][way]);
            }
        }
        due("go way 4", x.go(0, 4), DisplayMap.BAD);
        due("go way -1", x.go(0, -1), DisplayMap.BAD);
        due("go 12", x.go(12, 0), DisplayMap.BAD);
        due("go -1", x.go(-1, 0), DisplayMap.BAD);
    }

    private static void goFar() {
        // two rows of 15 tabs, so of 120 columns: up and down reach columns that place does not take
        DisplayMap x = Checks.laid("t>>>>>>>>>>>>>>>a/>>>>>>>>>>>>>>>b;w0,4,0;b8;");
        due("column of a", x.stands(15, 1), 120);
        due("down beyond 99", x.go(15, 3), 32);
        due("up beyond 99", x.go(32, 2), 15);
        due("longest row", x.count(4), 121);
        due("first column behind all", x.row(0, 0), 121);
    }

    private static void row() {
        DisplayMap x = Checks.laid("tabcde//f>/;w1,4,2;b3;");
        CHECKS.dueAll("rows", Checks.rows(x), "abcd|..e||f>>|");
        int[] ends = {4, 3, 0, 3, 0};
        int[] lines = {1, 0, 1, 1, 1};
        for (int r = 0; r < ends.length; r++) {
            due("row " + r + " 0", x.row(r, 0), ends[r]);
            due("row " + r + " 1", x.row(r, 1), lines[r]);
        }
        due("row 5", x.row(5, 0), DisplayMap.BAD);
        due("row -1", x.row(-1, 0), DisplayMap.BAD);
        due("row what 2", x.row(0, 2), DisplayMap.BAD);
        due("row what -1", x.row(0, -1), DisplayMap.BAD);
    }

    private static void changedTo(DisplayMap x, String act, int first, int many) {
        due("first changed by " + act, x.changed(0), first);
        due("changed by " + act, x.changed(1), many);
    }

    private static void changed() {
        DisplayMap x = Checks.laid("tabcd/efgh/ij/kl;w1,4,0;");
        changedTo(x, "nothing", DisplayMap.NONE, 0);
        x.insert(11, 25);
        changedTo(x, "a letter in row 2", 2, 1);
        x.insert(5, 24);
        // abcd|yefg|h|izj|kl against abcd|efgh|izj|kl
        changedTo(x, "a letter that makes a row", 1, 4);
        x.undo();
        changedTo(x, "its undo", 1, 4);
        x.insert(16, 27);
        changedTo(x, "an end behind all: a row that was none", 4, 1);
        x.erase(16);
        changedTo(x, "that end taken out", 4, 1);
        x.wide(2, 4, 1);
        changedTo(x, "a mode by which all stands the same", DisplayMap.NONE, 0);
        x.make(0, 1);
        changedTo(x, "a fold sign in place of a letter", 0, 1);
        x.unfold(0);
        changedTo(x, "a letter in place of a fold sign", 0, 1);
        x.set(16, 1);
        changedTo(x, "a hint behind all", 3, 1);
        x.insert(0, 26);
        x.tabs(3);
        due("a tab of another width", x.changed(0), 0);
        due("changed what 2", x.changed(2), DisplayMap.BAD);
        due("changed what -1", x.changed(-1), DisplayMap.BAD);
        x = Checks.laid("tabcd;f0,3;w1,4,0;");
        x.erase(1);
        changedTo(x, "a sign within a shut fold", DisplayMap.NONE, 0);
        x = Checks.laid("tab//cd;w1,4,0;");
        x.insert(2, 27);
        changedTo(x, "an empty line more", 2, 2);
        x = Checks.laid("taa/b;w1,4,0;");
        x.erase(0);
        changedTo(x, "fewer in a row", 0, 1);
        x = Checks.laid("tab;h1,1;w1,4,0;");
        x.insert(1, 0);
        changedTo(x, "a letter in place of a hint", 0, 1);
        x = Checks.laid("t>a;w0,4,0;b4;");
        x.insert(0, 1);
        changedTo(x, "a tab at another column", 0, 1);
    }

    private static void changedByUndo() {
        DisplayMap x = Checks.laid("tabcd;w1,4,0;");
        x.insert(4, 4);
        changedTo(x, "a row more", 1, 1);
        x.keep();
        changedTo(x, "keep is no act", 1, 1);
        x.undo();
        changedTo(x, "a row less", 1, 1);
        x.undo();
        changedTo(x, "a refused undo", 1, 1);
        x.back();
        changedTo(x, "back", DisplayMap.NONE, 0);
    }
}
