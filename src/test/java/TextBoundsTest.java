/** The limits of a TEXT's items, number by number: FAULT is at the item that oversteps one, and lay is NO then. */
public final class TextBoundsTest {
    private static final Checks CHECKS = new Checks();
    private static final String FORTY = "abcdefghijklmnopqrstuvwxyzabcdefghijkl>/";

    public static void main(String[] args) {
        lettersOfItems();
        signsToldOnce();
        signNumbers();
        foldNumbers();
        foldsApart();
        hintNumbers();
        hintsApart();
        flowNumbers();
        tabNumbers();
        figures();
        firstOfSeveral();
        emptyText();
        CHECKS.end();
    }

    private static void due(String call, long got, long want) {
        CHECKS.due(call, got, want);
    }

    /** FAULT of a text, and that it is laid only without one. */
    private static void fault(String text, int want) {
        DisplayMap x = new DisplayMap();
        Checks.write(x, text);
        due("letters of " + text, x.count(11), text.length());
        due("fault of " + text, x.fault(), want);
        int lay = x.lay();
        due("lay of " + text, lay == DisplayMap.NO ? 1 : 0, want == DisplayMap.NONE ? 0 : 1);
        due("signs behind " + text, x.count(0), lay == DisplayMap.NO ? 30 : lay);
    }

    private static void good(String text) {
        fault(text, DisplayMap.NONE);
    }

    /** The item stands behind the text and is at fault, or not. */
    private static void item(String text, String item, boolean good) {
        fault(text + item, good ? DisplayMap.NONE : text.length());
    }

    private static void lettersOfItems() {
        // none of these is good with the letter of another
        String[] told = {"t", "f0,6", "h1,1", "w1,4,0", "b1"};
        for (int letter = 32; letter <= 126; letter++) {
            for (String item : told) {
                String other = (char) letter + item.substring(1) + ";";
                boolean same = letter == item.charAt(0);
                item(letter == 't' ? "" : "tabcdef;", other, same);
            }
        }
    }

    private static void signsToldOnce() {
        good("t;");
        good("tab;");
        item("t;", "t;", false);
        item("tab;", "tab;", false);
        item("b3;", "t;", false);
        item("w1,4,0;", "tab;", false);
        item("h0,1;", "tab;", false);
        good("h0,1;w1,4,0;b1;");
        for (int letter = 32; letter <= 126; letter++) {
            boolean sign = letter >= 'a' && letter <= 'z' || letter == '>' || letter == '/';
            if (letter != ';') {
                item("", "ta" + (char) letter + "b;", sign);
            }
        }
    }

    private static void signNumbers() {
        for (int n = 0; n <= 40; n++) {
            DisplayMap x = new DisplayMap();
            Checks.write(x, "t" + FORTY.substring(0, n) + ";");
            due("fault of " + n, x.fault(), DisplayMap.NONE);
            due("lay of " + n, x.lay(), n);
            CHECKS.dueAll("signs of " + n, Checks.signs(x), FORTY.substring(0, n));
        }
        for (int n = 41; n <= 45; n++) {
            fault("t" + FORTY + FORTY.substring(0, n - 40) + ";", 0);
        }
        fault("t" + FORTY + FORTY + FORTY + FORTY + ";", 0);
        fault("t" + FORTY, 0);
    }

    private static void foldNumbers() {
        int[] sizes = {0, 1, 2, 9, 10, 40};
        for (int n : sizes) {
            String text = "t" + FORTY.substring(0, n) + ";";
            for (int a = 0; a <= n + 2; a++) {
                for (int b = 0; b <= n + 2; b++) {
                    item(text, "f" + a + "," + b + ";", a < b && b <= n);
                }
            }
            item(text, "f0,99;", false);
            item(text, "f99,99;", false);
        }
        fault("f0,1;", 0);
        fault("f0,0;", 0);
        StringBuilder many = new StringBuilder("tabcdefgh;");
        for (int f = 0; f < 8; f++) {
            String fold = "f" + (7 - f) + "," + (8 - f) + ";";
            item(many.toString(), fold, f < 4);
            if (f < 4) {
                many.append(fold);
            }
        }
    }

    private static void foldsApart() {
        for (int a = 0; a < 8; a++) {
            for (int b = a + 1; b <= 8; b++) {
                boolean apart = b <= 3 || a >= 5;
                item("tabcdefgh;f3,5;", "f" + a + "," + b + ";", apart);
            }
        }
        item("tabcdefgh;f0,3;f5,8;", "f3,5;", true);
        item("tabcdefgh;f0,3;f5,8;", "f2,5;", false);
        item("tabcdefgh;f0,3;f5,8;", "f3,6;", false);
    }

    private static void hintNumbers() {
        int[] sizes = {0, 1, 2, 9, 10, 40};
        for (int n : sizes) {
            String text = "t" + FORTY.substring(0, n) + ";";
            for (int a = 0; a <= n + 2; a++) {
                for (int w = 0; w <= 7; w++) {
                    item(text, "h" + a + "," + w + ";", a <= n && w >= 1 && w <= 5);
                }
            }
            item(text, "h99,1;", false);
            item(text, "h0,10;", false);
            item(text, "h0,15;", false);
            item(text, "h0,99;", false);
        }
        good("h0,5;");
        fault("h1,5;", 0);
        StringBuilder many = new StringBuilder("tabcdefgh;");
        for (int h = 0; h < 8; h++) {
            String hint = "h" + (8 - h) + ",1;";
            item(many.toString(), hint, h < 4);
            if (h < 4) {
                many.append(hint);
            }
        }
    }

    private static void hintsApart() {
        for (int a = 0; a <= 4; a++) {
            item("tabcd;h2,1;", "h" + a + ",1;", a != 2);
            item("tabcd;h0,1;h4,1;", "h" + a + ",5;", a != 0 && a != 4);
        }
        item("h0,1;", "h0,1;", false);
        // folds leave hints their places
        good("tabcd;f0,4;h0,1;h1,1;h3,1;h4,1;");
    }

    private static void flowNumbers() {
        for (int n = 0; n <= 99; n++) {
            item("tab;", "w" + n + ",4,0;", n <= 2);
            item("tab;", "w0," + n + ",0;", n >= 4 && n <= 20);
            item("tab;", "w2,20," + n + ";", n <= 3);
        }
        for (int m = 0; m <= 3; m++) {
            for (int w = 3; w <= 21; w++) {
                for (int i = 0; i <= 4; i++) {
                    item("", "w" + m + "," + w + "," + i + ";", m <= 2 && w >= 4 && w <= 20 && i <= 3);
                }
            }
        }
        DisplayMap x = Checks.laid("w0,4,0;w2,20,3;");
        due("the last mode", x.count(5), 2);
        due("the last w", x.count(6), 20);
        due("the last i", x.count(7), 3);
        x = Checks.laid("w2,20,3;w0,4,0;");
        due("the last mode", x.count(5), 0);
        due("the last w", x.count(6), 4);
        due("the last i", x.count(7), 0);
        // one that is not so is at fault even where a later one would count
        fault("w3,4,0;w1,4,0;", 0);
    }

    private static void tabNumbers() {
        for (int n = 0; n <= 99; n++) {
            item("", "b" + n + ";", n >= 1 && n <= 8);
        }
        due("the last tabs", Checks.laid("b1;b8;").count(8), 8);
        due("the last tabs", Checks.laid("b8;b1;").count(8), 1);
        fault("b9;b1;", 0);
        fault("b1;b9;", 3);
    }

    private static void figures() {
        String[] good = {"f0,4;", "f00,4;", "f0,04;", "f00,04;", "h4,5;", "h04,05;", "w1,4,0;", "w01,04,00;", "w02,20,03;",
            "b8;", "b08;"};
        for (String item : good) {
            item("tabcd;", item, true);
        }
        String[] bad = {
            "f;", "f0;", "f,;", "f0,;", "f,4;", "f0,4,;", "f,0,4;", "f0,,4;", "f0,4,4;", "f000,4;", "f0,004;", "f04;",
            "f+0,4;", "f-0,4;", "f0.4;", "f 0,4;", "f0, 4;", "f0,4 ;", "fa,4;", "f0,d;", "f0:4;", "f0/4;",
            "h;", "h0;", "h0,;", "h,1;", "h0,1,1;", "h0,001;", "h000,1;", "h0,1 ;", "h0,-1;", "h0,a;",
            "w;", "w1;", "w1,4;", "w1,4,;", "w1,,0;", "w,4,0;", "w1,4,0,;", "w1,4,0,0;", "w001,4,0;", "w1,004,0;",
            "w1,4,000;", "w1,4, 0;", "w1 4 0;", "w-1,4,0;",
            "b;", "b,;", "b3,;", "b,3;", "b3,3;", "b008;", "b 3;", "b3 ;", "b-3;", "b+3;", "ba;"};
        for (String item : bad) {
            item("tabcd;", item, false);
        }
        // an item without its ; is at fault, however good it is
        for (String item : good) {
            item("tabcd;", item.substring(0, item.length() - 1), false);
        }
        item("tabcd;", ";", false);
        item("tabcd;b3;", ";", false);
        item("tabcd;b3;", " ", false);
        item("", " tabcd;", false);
    }

    private static void firstOfSeveral() {
        fault("tA;b9;", 0);
        fault("ta;b9;tb;", 3);
        fault("ta;b8;b9;b9", 6);
        fault("ta;b8;tb;b9", 6);
        fault("ta;f0,1;f0,1;f0,2;", 8);
        fault("ta;h0,1;h1,1;h2,1;h0,1;", 13);
        // the signs are at fault themselves, not what is told of them
        fault("t" + FORTY + "a;f0,1;", 0);
    }

    private static void emptyText() {
        DisplayMap x = new DisplayMap();
        due("fault", x.fault(), DisplayMap.NONE);
        due("wipe", x.wipe(), 0);
        due("the first text stays", x.count(0), 30);
        due("lay", x.lay(), 0);
        int[] counts = {0, 0, 0, 1, 0, 1, 8, 0, 4, 0, 0, 0};
        for (int what = 0; what < counts.length; what++) {
            due("count " + what, x.count(what), counts[what]);
        }
        due("sign", x.sign(0), DisplayMap.NONE);
        due("stands row", x.stands(0, 0), 0);
        due("stands column", x.stands(0, 1), 0);
        due("shown", x.stands(0, 2), 1);
        due("place", x.place(0, 0), 0);
        due("place far", x.place(0, 99), 0);
        due("screen", x.screen(0, 0), DisplayMap.NONE);
        for (int way = 0; way < 4; way++) {
            due("go " + way, x.go(0, way), DisplayMap.NONE);
        }
        due("row", x.row(0, 0), 0);
        due("a line begins", x.row(0, 1), 1);
        due("changed", x.changed(0), DisplayMap.NONE);
        due("changed how many", x.changed(1), 0);
        due("fit", x.fit(1), 4);
        due("saves", x.saves(0), DisplayMap.NONE);
        due("saves rows", x.saves(1), DisplayMap.NONE);
        due("tight", x.tight(-1), 0);
        due("tight first", x.tight(0), DisplayMap.NONE);
        due("erase", x.erase(0), DisplayMap.BAD);
        due("make", x.make(0, 0), DisplayMap.BAD);
        due("make", x.make(0, 1), DisplayMap.BAD);
        due("keep", x.keep(), 1);
        due("insert", x.insert(0, 27), 1);
        due("rows", x.count(3), 2);
        due("back", x.back(), 0);
        due("rows of nothing", x.count(3), 1);
    }
}
