/** Promises 25 to 31 at their edges, and that what would be is what is when the acts are done in earnest. */
public final class WouldBeBoundsTest {
    private static final Checks CHECKS = new Checks();
    private static final String LETTERS = "abcdefghijklmnopqrstuvwxyzabcdefghijklmn";
    private static final String[] TEXTS = {
        "", "t;h0,5;w1,4,3;", "ta;f0,1;", "tab>cdefghij/klm>no/pqrstuvwxyz;f6,9;f18,21;h3,2;h11,4;w2,7,1;b3;",
        "tabcd;w1,4,0;", "tabcde/fgh;f1,3;f4,6;h3,2;w1,4,2;", "t////;w1,4,0;", "ta>b>c>d>e>f;b8;w2,9,3;",
        "t" + LETTERS + ";f0,10;f10,20;f20,30;f30,40;h0,5;h10,5;h20,5;h40,5;w2,5,2;",
        "t" + LETTERS.substring(1) + ";f0,9;h39,1;w1,4,0;", "t" + LETTERS.substring(1, 37) + ";f9,12;w2,6,1;",
        "tab/cd>ef/gh>ij;f0,3;f3,6;f6,9;f9,12;w0,4,0;b5;", "t>>>>/////>>>>;f2,6;f7,9;h4,3;w1,6,1;b2;"};

    public static void main(String[] args) {
        for (String text : TEXTS) {
            fitInEarnest(text);
            savesInEarnest(text);
            tightInEarnest(text);
            for (int z = 0; z <= 9999; z += 303) {
                dayInEarnest(text, z);
            }
        }
        fitEdges();
        savesEdges();
        tightEdges();
        dayEdges();
        keepEdges();
        countEdges();
        CHECKS.end();
    }

    private static void due(String call, long got, long want) {
        CHECKS.due(call, got, want);
    }

    private static DisplayMap laid(String text) {
        DisplayMap x = Checks.laid(text);
        for (int f = 0; f < x.count(1); f += 2) {
            x.toggle(f);
        }
        return x;
    }

    private static void fitInEarnest(String text) {
        DisplayMap asked = laid(text);
        for (int k = 1; k <= 40; k++) {
            DisplayMap done = laid(text);
            int want = DisplayMap.NONE;
            for (int w = 20; w >= 4; w--) {
                done.wide(done.count(5), w, done.count(7));
                want = done.count(3) <= k ? w : want;
            }
            due("fit " + k + " of " + text, asked.fit(k), want);
        }
    }

    private static void savesInEarnest(String text) {
        DisplayMap done = laid(text);
        int which = DisplayMap.NONE;
        int rows = DisplayMap.NONE;
        for (int f = done.count(1) - 1; f >= 0; f--) {
            if (done.fold(f, 2) == 0) {
                done.toggle(f);
                if (rows < 0 || done.count(3) <= rows) {
                    which = f;
                    rows = done.count(3);
                }
                done.toggle(f);
            }
        }
        due("saves of " + text, laid(text).saves(0), which);
        due("saves, rows, of " + text, laid(text).saves(1), rows);
    }

    private static void tightInEarnest(String text) {
        DisplayMap asked = laid(text);
        DisplayMap done = laid(text);
        int rows = done.count(3);
        int found = 0;
        for (int p = 0; p <= asked.count(0); p++) {
            if (done.insert(p, p % 26) > 0) {
                if (done.count(3) > rows) {
                    due("tight " + found + " of " + text, asked.tight(found), p);
                    found++;
                }
                done.undo();
            }
        }
        due("tight of " + text, asked.tight(-1), found);
        due("not so many of " + text, asked.tight(found), DisplayMap.NONE);
    }

    private static int draw(int z, int k) {
        long x = 7919L * z + 6151L * k + 1;
        return (int) (x * x % 65521);
    }

    /** The acts of a day's draws done one by one; a refused one does nothing. */
    private static void live(DisplayMap x, int draw) {
        if (draw % 4 < 2) {
            x.insert(draw / 256 % (x.count(0) + 1), draw / 8 % 28);
        } else if (draw % 4 == 2 && x.count(0) > 0) {
            x.erase(draw / 256 % x.count(0));
        } else if (draw % 4 == 3 && x.count(1) > 0) {
            x.toggle(draw / 8 % x.count(1));
        }
    }

    private static void dayInEarnest(String text, int z) {
        DisplayMap asked = laid(text);
        DisplayMap done = laid(text);
        for (int n = 1; n <= 40; n++) {
            live(done, draw(z, n - 1));
            String day = "day " + z + " of " + n + " of " + text;
            due(day + ": signs", asked.day(z, n, 0), done.count(0));
            due(day + ": rows", asked.day(z, n, 1), done.count(3));
            due(day + ": columns", asked.day(z, n, 2), done.count(4));
        }
    }

    private static void fitEdges() {
        // one line of n letters, by columns without indent: the least w with k * w >= n
        for (int n = 0; n <= 40; n++) {
            DisplayMap x = Checks.laid("t" + LETTERS.substring(0, n) + ";w1,20,0;");
            for (int k = 1; k <= 40; k++) {
                int w = Math.max(4, (n + k - 1) / k);
                due("fit " + k + " of " + n, x.fit(k), w <= 20 ? w : DisplayMap.NONE);
            }
        }
        due("a tab wider than all", Checks.laid("t>;b8;w1,4,0;").fit(1), 4);
        due("two tabs by 8", Checks.laid("t>>;b8;w1,4,0;").fit(1), 16);
        due("three tabs by 8", Checks.laid("t>>>;b8;w1,4,0;").fit(1), DisplayMap.NONE);
        due("a hint wider than all", Checks.laid("h0,5;w1,20,0;").fit(1), 4);
        due("hints of 20 columns in all", Checks.laid("tabc;h0,5;h1,5;h2,5;h3,2;w1,4,0;").fit(1), 20);
        due("hints of 21 columns in all", Checks.laid("tabc;h0,5;h1,5;h2,5;h3,3;w1,4,0;").fit(1), DisplayMap.NONE);
    }

    private static void savesEdges() {
        // four folds that save alike: the first; then the one that is open alone
        DisplayMap x = Checks.laid("ta/b/c/d/;f1,2;f3,4;f5,6;f7,8;");
        due("all shut", x.saves(0), DisplayMap.NONE);
        due("all shut, rows", x.saves(1), DisplayMap.NONE);
        due("no row more", x.count(3), 1);
        x.toggle(3);
        due("the last alone", x.saves(0), 3);
        due("one row then", x.saves(1), 1);
        x.toggle(1);
        due("of two the first", x.saves(0), 1);
        due("two rows then", x.saves(1), 2);
        x.toggle(0);
        x.toggle(2);
        due("of four the first", x.saves(0), 0);
        due("four rows then", x.saves(1), 4);
        x.unfold(0);
        due("of three the first", x.saves(0), 0);
        // a fold that saves nothing is told all the same
        x = Checks.laid("tab;f0,2;");
        x.toggle(0);
        due("nothing saved", x.saves(0), 0);
        due("as many rows", x.saves(1), 1);
    }

    private static void tightEdges() {
        for (int n = 0; n <= 40; n++) {
            DisplayMap x = Checks.laid("t" + LETTERS.substring(0, n) + ";w1,4,0;");
            // without a hint every place is tight if the last row is full, and none else
            int want = n > 0 && n < 40 && n % 4 == 0 ? n + 1 : 0;
            due("tight of " + n, x.tight(-1), want);
            due("the first of " + n, x.tight(0), want > 0 ? 0 : DisplayMap.NONE);
            due("the last of " + n, x.tight(n), want > 0 ? n : DisplayMap.NONE);
            due("behind the last of " + n, x.tight(n + 1), DisplayMap.NONE);
        }
        DisplayMap x = Checks.laid("t" + LETTERS + ";h40,1;w1,4,0;");
        due("no room at 40", x.tight(-1), 0);
        x.erase(39);
        due("room at 39", x.tight(-1), 40);
        due("the last place of 39", x.tight(39), 39);
        due("not so many", x.tight(40), DisplayMap.NONE);
        x.undo();
        due("no room again", x.tight(-1), 0);
        // several rows more count as one does
        x = Checks.laid("ta>b;w1,6,0;b5;");
        CHECKS.dueAll("rows", Checks.rows(x), "a>>>>b");
        CHECKS.dueAll("tight", Checks.tight(x), "2 3");
    }

    private static void dayEdges() {
        due("z 0", draw(0, 0), 1);
        // x 7919 * 9999 + 6151 * 39 + 1 = 79421971: its square is far beyond an int
        due("z 9999, the 40th", draw(9999, 39), 79421971L * 79421971L % 65521L);
        DisplayMap x = Checks.laid("t" + LETTERS + ";w1,4,0;");
        // z 0: put in (no room), a fold (none)
        due("full, put in", x.day(0, 1, 0), 40);
        due("full, rows", x.day(0, 1, 1), 10);
        due("full, columns", x.day(0, 1, 2), 4);
        due("full, a fold that is none", x.day(0, 2, 0), 40);
        x = Checks.laid("");
        due("nothing, put in", x.day(0, 1, 0), 1);
        due("nothing, put in, columns", x.day(0, 1, 2), 1);
        due("nothing, taken out", x.day(3, 1, 0), 0);
        due("nothing, taken out, rows", x.day(3, 1, 1), 1);
        due("nothing, taken out, columns", x.day(3, 1, 2), 0);
        due("nothing, a fold", x.day(1, 1, 0), 0);
    }

    private static void keepEdges() {
        DisplayMap x = Checks.laid("tab;");
        due("keep", x.keep(), 1);
        due("keep the same", x.keep(), 2);
        due("a third", x.keep(), DisplayMap.FULL);
        for (int n = 0; n < 5; n++) {
            due("back", x.back(), 1);
            due("room for one", x.keep(), 2);
            due("no more", x.keep(), DisplayMap.FULL);
        }
        due("back to the second", x.back(), 1);
        due("back to the first", x.back(), 0);
        due("no more", x.back(), DisplayMap.NO);
        // what is kept stays as it was kept, whatever is done behind it
        x = Checks.laid("tab/cd;f0,2;h3,2;w2,9,1;b6;");
        String was = Checks.all(x);
        x.keep();
        for (int n = 0; n < 5; n++) {
            x.erase(0);
        }
        x.unset(0);
        x.wide(0, 4, 0);
        x.tabs(1);
        Checks.write(x, "tz");
        due("a lay refused keeps it", x.lay(), DisplayMap.NO);
        due("back", x.back(), 0);
        CHECKS.dueAll("as it was", Checks.all(x), was);
        due("the letters stay", x.count(11), 2);
        due("behind back nothing is undone", x.count(9), 0);
        x.erase(0);
        due("what comes then is", x.undo(), 0);
        CHECKS.dueAll("as it was", Checks.all(x), was);
    }

    private static void countEdges() {
        DisplayMap x = Checks.laid("t" + LETTERS + ";f0,1;f1,2;f2,3;f3,4;h0,5;h1,5;h2,5;h40,5;w2,20,3;b8;");
        x.keep();
        x.keep();
        for (int n = 0; n < 9; n++) {
            x.toggle(0);
        }
        int[] most = {40, 4, 4, 4, 20, 2, 20, 3, 8, 8, 2, 94};
        for (int what = 0; what < most.length; what++) {
            due("count " + what, x.count(what), most[what]);
        }
        due("count 12", x.count(12), DisplayMap.BAD);
        due("count -1", x.count(-1), DisplayMap.BAD);
    }
}
