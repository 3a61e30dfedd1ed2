/** Part 2 and 3 at their edges: what still stands in a row and what goes on, for every W and I; the most rows, columns. */
public final class FlowBoundsTest {
    private static final Checks CHECKS = new Checks();
    private static final String LETTERS = "abcdefghijklmnopqrstuvwxyzabcdefghijklmn";

    public static void main(String[] args) {
        for (int w = 4; w <= 20; w++) {
            for (int i = 0; i <= 3; i++) {
                lettersAtTheEdge(w, i);
                hintsAtTheEdge(w, i);
                tabsAtTheEdge(w, i);
                wordsAtTheEdge(w, i);
                endsAtTheEdge(w, i);
            }
        }
        tabStops();
        wordsOfTheirKinds();
        mostRows();
        mostColumns();
        foldEdges();
        insertEdges();
        eraseEdges();
        placeEdges();
        goEdges();
        changedEdges();
        CHECKS.end();
    }

    private static void due(String call, long got, long want) {
        CHECKS.due(call, got, want);
    }

    private static void rowsOf(String text, String want) {
        CHECKS.dueAll("rows of " + text, Checks.rows(Checks.laid(text)), want);
    }

    private static String many(char c, int n) {
        StringBuilder s = new StringBuilder();
        for (int k = 0; k < n; k++) {
            s.append(c);
        }
        return s.toString();
    }

    private static String flow(int mode, int w, int i) {
        return "w" + mode + "," + w + "," + i + ";";
    }

    /** COLUMN and WIDTH together: W stays, one above goes on; in MODE 0 nothing does. */
    private static void lettersAtTheEdge(int w, int i) {
        String line = LETTERS.substring(0, w);
        for (int mode = 1; mode <= 2; mode++) {
            rowsOf("t" + line + ";" + flow(mode, w, i), line);
            rowsOf("t" + line + "z;" + flow(mode, w, i), line + "|" + many('.', i) + "z");
            String rest = LETTERS.substring(w, w + w - i);
            rowsOf("t" + LETTERS.substring(0, w + w - i) + ";" + flow(mode, w, i), line + "|" + many('.', i) + rest);
            if (w + w - i < 40) {
                rowsOf("t" + LETTERS.substring(0, w + w - i) + "z;" + flow(mode, w, i),
                    line + "|" + many('.', i) + rest + "|" + many('.', i) + "z");
            }
        }
        rowsOf("t" + line + "z;" + flow(0, w, i), line + "z");
    }

    private static void hintsAtTheEdge(int w, int i) {
        for (int n = 1; n <= 5; n++) {
            for (int ahead = Math.max(1, w - n - 1); ahead <= w; ahead++) {
                String line = LETTERS.substring(0, ahead);
                String text = "t" + line + ";h" + ahead + "," + n + ";" + flow(1, w, i);
                rowsOf(text, line + (ahead + n > w ? "|" + many('.', i) : "") + many('=', n));
            }
            // alone it stays, however wide it is
            rowsOf("h0," + n + ";" + flow(1, w, i), many('=', n));
            rowsOf("h0," + n + ";" + flow(2, w, i), many('=', n));
        }
    }

    private static void tabsAtTheEdge(int w, int i) {
        for (int t = 1; t <= 8; t++) {
            for (int ahead = 1; ahead <= w; ahead++) {
                String line = LETTERS.substring(0, ahead);
                int width = t - ahead % t;
                String want = ahead + width > w
                    ? line + "|" + many('.', i) + many('>', t - i % t)
                    : line + many('>', width);
                rowsOf("t" + line + ">;b" + t + ";" + flow(1, w, i), want);
                rowsOf("t" + line + ">;b" + t + ";" + flow(2, w, i), want);
            }
        }
    }

    /** A word that does not fit goes on whole if it is W less I wide at most, else it is cut at W. */
    private static void wordsAtTheEdge(int w, int i) {
        // ahead of the word a letter and a tab of one column
        for (int n = 1; n <= w + 1; n++) {
            String word = LETTERS.substring(0, n);
            String text = "tz>" + word + ";b1;" + flow(2, w, i);
            if (2 + n <= w) {
                rowsOf(text, "z>" + word);
            } else if (n <= w - i) {
                rowsOf(text, "z>|" + many('.', i) + word);
            } else {
                rowsOf(text, "z>" + word.substring(0, w - 2) + cut(word.substring(w - 2), w - i, i));
            }
        }
    }

    private static String cut(String rest, int wide, int i) {
        StringBuilder s = new StringBuilder();
        for (int p = 0; p < rest.length(); p++) {
            s.append(p % wide == 0 ? "|" + many('.', i) : "").append(rest.charAt(p));
        }
        return s.toString();
    }

    private static void endsAtTheEdge(int w, int i) {
        String line = LETTERS.substring(0, w);
        for (int mode = 0; mode <= 2; mode++) {
            DisplayMap x = Checks.laid("t" + line + "/;" + flow(mode, w, i));
            CHECKS.dueAll("an end at W " + w, Checks.rows(x), line + "|");
            due("row of the end", x.stands(w, 0), 0);
            due("column of the end", x.stands(w, 1), w);
            due("row of the last place", x.stands(w + 1, 0), 1);
            due("column of the last place", x.stands(w + 1, 1), 0);
        }
    }

    private static void tabStops() {
        for (int t = 1; t <= 8; t++) {
            for (int ahead = 0; ahead <= 17; ahead++) {
                String line = LETTERS.substring(0, ahead);
                // at a stop a tab reaches to the next one
                int stop = (ahead / t + 1) * t;
                DisplayMap x = Checks.laid("t" + line + ">z;b" + t + ";w0,4,0;");
                due("a tab by " + t + " at " + ahead, x.stands(ahead + 1, 1), stop);
                due("its last column", x.screen(0, stop - 1), 26);
                due("its first column", x.screen(0, ahead), 26);
            }
        }
        // wider than a row it stays where it is alone, and what is behind it goes on
        rowsOf("t>>;b8;w1,4,3;", ">>>>>>>>|...>>>>>");
        rowsOf("ta>/>b;b8;w1,4,3;", "a|...>>>>>|>>>>>>>>|...b");
    }

    private static void wordsOfTheirKinds() {
        // a hint parts no word, and what is behind a cut is not the first of one
        rowsOf("ta>bcd;h3,1;w2,5,0;b1;", "a>|b=cd");
        rowsOf("ta>bcd;h2,1;w2,5,0;b1;", "a>|=bcd");
        rowsOf("ta>bcde;h2,1;w2,5,0;b1;", "a>|=bcde");
        rowsOf("ta>bcde;h2,2;w2,5,0;b1;", "a>==b|cde");
        rowsOf("tabcdef>g;w2,5,0;b1;", "abcde|f>g");
        // a hint ahead of a tab or an end is a word of its own, or the end of one
        rowsOf("ta>>;h2,4;w2,5,0;b1;", "a>|====>");
        rowsOf("ta>b/;h3,3;w2,5,0;b1;", "a>|b===|");
        rowsOf("ta>/;h2,5;w2,5,0;b1;", "a>|=====|");
        rowsOf("ta>/;h2,5;w2,5,1;b1;", "a>|.=====|");
        // the hint of the last place belongs to the word ahead of it
        rowsOf("ta>b;h3,3;w2,5,0;b1;", "a>|b===");
        rowsOf("ta>;h2,4;w2,5,0;b1;", "a>|====");
        // a fold sign is one wide, whatever it hides
        rowsOf("ta>b>/>cd;f3,6;w2,5,0;b1;", "a>|b#cd");
        rowsOf("ta>b>/>cd;f2,8;w2,5,0;b1;", "a>#");
        // the first word of a line stays
        rowsOf("tabcdefgh;w2,4,3;", "abcd|...e|...f|...g|...h");
    }

    private static void mostRows() {
        DisplayMap x = Checks.laid("t" + many('/', 40) + ";");
        due("40 ends", x.count(3), 41);
        due("no columns", x.count(4), 0);
        due("the last row", x.row(40, 1), 1);
        due("behind it", x.row(41, 1), DisplayMap.BAD);
        due("the last place there", x.stands(40, 0), 40);
        due("at the last row", x.place(40, 0), 40);
        due("at the row above", x.place(39, 50), 39);
        due("40 rows do not do", x.fit(40), DisplayMap.NONE);
        due("up", x.go(40, 2), 39);
        due("down", x.go(39, 3), 40);
        due("no room", x.tight(-1), 0);
        due("an end less", x.erase(0), 27);
        due("40 rows", x.fit(40), 4);
        due("39 rows do not do", x.fit(39), DisplayMap.NONE);
        due("the row that is no more", x.changed(0), 40);
        due("it alone", x.changed(1), 1);
        // each of 44 in a row of its own
        x = Checks.laid("t" + LETTERS + ";h0,5;h1,5;h2,5;h40,5;w1,4,3;");
        due("44 rows", x.count(3), 44);
        due("the longest", x.count(4), 8);
        due("the last place", x.stands(40, 0), 43);
        due("its column", x.stands(40, 1), 8);
        due("the last row", x.row(43, 0), 8);
        due("behind it", x.row(44, 0), DisplayMap.BAD);
        due("no line begins with it", x.row(43, 1), 0);
    }

    private static void mostColumns() {
        DisplayMap x = Checks.laid("t" + many('>', 40) + ";b8;w0,4,0;");
        due("columns", x.count(4), 320);
        due("rows", x.count(3), 1);
        due("behind all", x.row(0, 0), 320);
        due("the last place", x.stands(40, 1), 320);
        due("at 99", x.place(0, 99), 12);
        due("screen at 99", x.screen(0, 99), 26);
        due("by columns", x.wide(1, 20, 0), 1);
        due("two in a row", x.count(3), 20);
        due("16 columns", x.count(4), 16);
        x = Checks.laid("t" + LETTERS + ";h0,5;h1,5;h2,5;h40,5;w0,20,3;");
        due("60 columns", x.count(4), 60);
        due("screen at 59", x.screen(0, 59), 29);
        due("screen at 60", x.screen(0, 60), DisplayMap.NONE);
        due("place at 59", x.place(0, 59), 40);
        due("place at 99", x.place(0, 99), 40);
        due("20 wide at most", x.fit(1), 4);
        x = Checks.laid("t" + LETTERS.substring(0, 20) + ";w1,4,0;");
        due("20 do", x.fit(1), 20);
        x.insert(0, 0);
        due("20 do no more", x.fit(1), DisplayMap.NONE);
    }

    private static void foldEdges() {
        DisplayMap x = Checks.laid("tabcdef;f0,6;h0,1;h3,2;h6,3;w0,4,0;");
        CHECKS.dueAll("all in one fold", Checks.rows(x), "=#===");
        CHECKS.dueAll("stands", Checks.stands(x), "0:1 0:1 0:1 0:1 0:1 0:1 0:5");
        CHECKS.dueAll("hints", Checks.hints(x), "0,1! 3,2 6,3!");
        due("right of the first", x.go(0, 0), 6);
        due("right of one within", x.go(3, 0), 6);
        due("left of one within", x.go(3, 1), 0);
        due("left of the last place", x.go(6, 1), 0);
        due("first shown", x.stands(0, 2), 1);
        due("second not shown", x.stands(1, 2), 0);
        due("the last of it not shown", x.stands(5, 2), 0);
        due("behind it shown", x.stands(6, 2), 1);
        rowsOf("tabcd;f0,1;f1,2;f2,3;f3,4;w1,4,0;", "####");
        rowsOf("ta/;f1,2;w1,4,0;", "a#");
        rowsOf("t/a;f0,1;w1,4,0;", "#a");
        rowsOf("t//;f0,2;w1,4,0;", "#");
        rowsOf("t>;f0,1;w1,4,0;b8;", "#");
    }

    /** Ahead of a fold, at its first place, behind it: the fold does not get the sign; within it does. */
    private static void insertEdges() {
        String[] folds = {"2,3!", "2,3!", "1,2!", "1,2!"};
        for (int at = 0; at < folds.length; at++) {
            DisplayMap x = Checks.laid("tabc;f1,2;");
            x.insert(at, 25);
            CHECKS.dueAll("a fold of one sign, insert at " + at, Checks.folds(x), folds[at]);
        }
        DisplayMap x = Checks.laid("tabc;f0,3;");
        x.insert(0, 25);
        CHECKS.dueAll("ahead of all", Checks.folds(x), "1,4!");
        x.insert(2, 25);
        CHECKS.dueAll("behind its first", Checks.folds(x), "1,5!");
        x.insert(4, 25);
        CHECKS.dueAll("ahead of its last", Checks.folds(x), "1,6!");
        x.insert(6, 25);
        CHECKS.dueAll("at the last place", Checks.folds(x), "1,6!");
        x = Checks.laid("tabcd;f0,2;f2,4;");
        x.insert(2, 25);
        CHECKS.dueAll("between two that touch", Checks.folds(x), "0,2! 3,5!");
        x = Checks.laid("tab;f0,2;h0,1;h1,2;h2,3;w0,4,0;");
        x.insert(1, 25);
        CHECKS.dueAll("hints within a fold", Checks.hints(x), "0,1! 2,2 3,3!");
        x.insert(0, 25);
        CHECKS.dueAll("the hint stays with its sign", Checks.rows(x), "z=#===");
        x.insert(4, 25);
        CHECKS.dueAll("the hint of the last place stays behind all", Checks.rows(x), "z=#z===");
        x = Checks.laid("t;h0,5;");
        x.insert(0, 0);
        CHECKS.dueAll("the hint alone", Checks.rows(x), "a=====");
    }

    private static void eraseEdges() {
        DisplayMap x = Checks.laid("tabcd;f1,3;h1,1;h3,2;w0,4,0;");
        x.erase(1);
        CHECKS.dueAll("the first of a fold", Checks.folds(x) + " " + Checks.hints(x), "1,2! 1,1! 2,2!");
        x.erase(1);
        CHECKS.dueAll("the last of a fold", Checks.folds(x) + " " + Checks.hints(x), " 1,2!");
        x.erase(1);
        CHECKS.dueAll("the last of all", Checks.hints(x) + " " + Checks.rows(x), "1,2! a==");
        x.erase(0);
        CHECKS.dueAll("nothing left but the hint", Checks.hints(x) + " " + Checks.rows(x), "0,2! ==");
        due("nothing to erase", x.erase(0), DisplayMap.BAD);
        due("four undone", x.count(9), 4);
        x = Checks.laid("tab;h0,1;h1,2;h2,3;");
        x.erase(0);
        CHECKS.dueAll("the one ahead goes", Checks.hints(x), "0,2! 1,3!");
        x.erase(0);
        CHECKS.dueAll("the last one stays", Checks.hints(x), "0,3!");
        // the fold goes in the middle, the others keep their numbers and their state
        x = Checks.laid("tabc;f0,1;f1,2;f2,3;");
        x.toggle(2);
        x.erase(1);
        CHECKS.dueAll("the middle one", Checks.folds(x), "0,1! 1,2");
        x.erase(0);
        CHECKS.dueAll("the first one", Checks.folds(x), "0,1");
        x.erase(0);
        CHECKS.dueAll("the only one", Checks.folds(x), "");
        // a hint comes out of a fold that has gone
        x = Checks.laid("tabc;f0,2;h1,4;w0,4,0;");
        due("within", x.hint(0, 2), 0);
        x.erase(0);
        due("at its first place", x.hint(0, 2), 1);
    }

    private static void placeEdges() {
        DisplayMap x = Checks.laid("tabcdef/g;f2,5;h5,1;w1,4,2;");
        CHECKS.dueAll("rows", Checks.rows(x), "ab#=|..f|g");
        int[][] wants = {{0, 1, 2, 5, 5}, {5, 5, 5, 6, 6}, {7, 8, 8, 8, 8}};
        for (int r = 0; r < wants.length; r++) {
            for (int c = 0; c < wants[r].length; c++) {
                due("place " + r + " " + c, x.place(r, c), wants[r][c]);
            }
            due("place " + r + " 99", x.place(r, 99), wants[r][4]);
        }
        // the last place is there only in the last row
        x = Checks.laid("tabcde;w1,4,0;");
        due("behind a row that goes on", x.place(0, 4), 3);
        due("behind all", x.place(1, 1), 5);
        x = Checks.laid("tabcd;h4,1;w1,4,1;");
        due("the hint of the last place, below", x.place(1, 1), 4);
        due("ahead of it", x.place(1, 0), 4);
        due("behind a row of letters", x.place(0, 9), 3);
        x = Checks.laid("ta/;h1,4;w1,4,0;");
        CHECKS.dueAll("rows", Checks.rows(x), "a|====|");
        due("a hint ahead of an end, below", x.place(1, 0), 1);
        due("the end behind it", x.place(1, 4), 1);
        due("behind the row above", x.place(0, 4), 0);
        due("the row of the last place", x.place(2, 0), 2);
    }

    private static void goEdges() {
        DisplayMap x = Checks.laid("tabcd/e/fghi;w1,4,0;");
        due("right of the last sign", x.go(10, 0), 11);
        due("right of the last place", x.go(11, 0), DisplayMap.NONE);
        due("left of the first", x.go(0, 1), DisplayMap.NONE);
        due("up from row 0", x.go(3, 2), DisplayMap.NONE);
        due("down from the last row", x.go(8, 3), DisplayMap.NONE);
        due("down to a shorter row: its end", x.go(3, 3), 6);
        due("up to a shorter row: its end", x.go(10, 2), 6);
        due("down from an end", x.go(6, 3), 8);
        due("up from an end", x.go(6, 2), 1);
        due("down to the last place", Checks.laid("tab/;").go(1, 3), 3);
        x = Checks.laid("tabcd/ef;f0,1;f3,6;w1,5,0;");
        CHECKS.dueAll("rows", Checks.rows(x), "#bc#f");
        due("one row: up", x.go(4, 2), DisplayMap.NONE);
        due("one row: down", x.go(4, 3), DisplayMap.NONE);
        // ahead of all in a row stands its first
        x = Checks.laid("tabcdef;w1,4,3;");
        due("down to the indent", x.go(0, 3), 4);
        due("up from the indent", x.go(4, 2), 3);
    }

    private static void changedEdges() {
        DisplayMap y = Checks.laid("");
        y.insert(0, 0);
        due("the first letter of all", y.changed(0), 0);
        due("its row", y.changed(1), 1);
        y.erase(0);
        due("the last letter of all", y.changed(0), 0);
        due("the row of nothing", y.changed(1), 1);
        DisplayMap x = Checks.laid("tabcd;w1,4,0;");
        x.tabs(8);
        due("tabs without a tab", x.changed(0), DisplayMap.NONE);
        due("no row", x.changed(1), 0);
        x.wide(1, 20, 3);
        due("wide that moves nothing", x.changed(0), DisplayMap.NONE);
        due("still undone", x.count(9), 2);
        x.insert(4, 27);
        due("an end behind all", x.changed(0), 1);
        due("the new row alone", x.changed(1), 1);
        x.erase(4);
        due("the row that is no more", x.changed(0), 1);
        due("it alone", x.changed(1), 1);
        x.insert(0, 27);
        due("an end ahead of all", x.changed(0), 0);
        due("both rows", x.changed(1), 2);
        x = Checks.laid("taaa;w1,4,0;");
        x.insert(1, 0);
        due("a letter more of the same", x.changed(0), 0);
        x = Checks.laid("taa/aa;w1,4,0;");
        x.erase(2);
        due("rows joined", x.changed(1), 2);
        x = Checks.laid("t;h0,2;w1,4,0;");
        x.insert(0, 26);
        x.tabs(2);
        due("a tab narrower", x.changed(0), 0);
        x = Checks.laid("tab;h1,2;w1,4,0;");
        x.make(0, 1);
        due("a fold sign in place of a letter", x.changed(1), 1);
        x.toggle(0);
        due("the letter again", x.changed(1), 1);
        x.unfold(0);
        due("an open fold gone", x.changed(0), DisplayMap.NONE);
        x.unset(0);
        due("a hint taken away", x.changed(1), 1);
        x.set(1, 3);
        due("a hint by which a letter goes on", x.changed(1), 2);
        x = Checks.laid("tabb;f1,3;w1,4,0;");
        x.insert(2, 3);
        due("within a shut fold", x.changed(0), DisplayMap.NONE);
        x.undo();
        due("undone within it", x.changed(0), DisplayMap.NONE);
        // a fold sign in place of a fold sign, a hint in place of a hint are the same, wherever they belong
        x = Checks.laid("tab;f0,1;f1,2;h0,2;w1,4,0;");
        x.erase(0);
        due("a fold sign less", x.changed(1), 1);
        x.insert(1, 27);
        due("a row more", x.changed(0), 1);
        due("the first row as it was", x.changed(1), 1);
    }
}
