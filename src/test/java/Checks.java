/**
 * Counts and prints the calls whose answer is not the one that is due, and tells what an object holds. That is told in
 * as few calls as will do, for what an object answers is promised for 512 calls only.
 */
final class Checks {
    private int done = 0;
    private int wrong = 0;

    void due(String call, long got, long want) {
        done++;
        if (got != want) {
            wrong++;
            System.out.println(call + " answered " + got + ", due is " + want);
        }
    }

    /** The answers of several calls, told in one row. */
    void dueAll(String calls, String got, String want) {
        done++;
        if (!got.equals(want)) {
            wrong++;
            System.out.println(calls + " answered " + got + ", due is " + want);
        }
    }

    void end() {
        System.out.println(done + " answers looked at, " + wrong + " not as due");
        if (wrong != 0 || done == 0) {
            System.exit(1);
        }
    }

    static void write(DisplayMap x, String text) {
        x.wipe();
        for (int i = 0; i < text.length(); i++) {
            x.write(text.charAt(i));
        }
    }

    static DisplayMap laid(String text) {
        DisplayMap x = new DisplayMap();
        write(x, text);
        if (x.lay() < 0) {
            throw new IllegalStateException("not laid: " + text);
        }
        return x;
    }

    /** The signs as a text tells them. */
    static String signs(DisplayMap x) {
        StringBuilder s = new StringBuilder();
        for (int p = 0, many = x.count(0); p < many; p++) {
            s.append("abcdefghijklmnopqrstuvwxyz>/".charAt(x.sign(p)));
        }
        return s.toString();
    }

    /** A,B of each fold, with ! behind a shut one. */
    static String folds(DisplayMap x) {
        StringBuilder s = new StringBuilder();
        for (int f = 0, many = x.count(1); f < many; f++) {
            s.append(x.fold(f, 0)).append(',').append(x.fold(f, 1)).append(x.fold(f, 2) == 1 ? "! " : " ");
        }
        return s.toString().trim();
    }

    /** A,N of each hint, with ! behind one that stands on the screen. */
    static String hints(DisplayMap x) {
        StringBuilder s = new StringBuilder();
        for (int h = 0, many = x.count(2); h < many; h++) {
            s.append(x.hint(h, 0)).append(',').append(x.hint(h, 1)).append(x.hint(h, 2) == 1 ? "! " : " ");
        }
        return s.toString().trim();
    }

    /** The rows, parted by |: letters, > a tab's columns, # a fold sign, = a hint's columns, . nothing. */
    static String rows(DisplayMap x) {
        StringBuilder s = new StringBuilder();
        for (int r = 0, many = x.count(3); r < many; r++) {
            if (r > 0) {
                s.append('|');
            }
            for (int c = 0, end = x.row(r, 0); c < end; c++) {
                int code = x.screen(r, c);
                s.append(code < 0 ? '.' : "abcdefghijklmnopqrstuvwxyz>?#=".charAt(code));
            }
        }
        return s.toString();
    }

    /** Where every place stands: row:column. */
    static String stands(DisplayMap x) {
        StringBuilder s = new StringBuilder();
        for (int p = 0, last = x.count(0); p <= last; p++) {
            s.append(x.stands(p, 0)).append(':').append(x.stands(p, 1)).append(' ');
        }
        return s.toString().trim();
    }

    /** All that an act can change. */
    static String all(DisplayMap x) {
        return signs(x) + " " + folds(x) + " " + hints(x) + " " + rows(x)
            + " " + x.count(5) + " " + x.count(6) + " " + x.count(7) + " " + x.count(8);
    }

    static String tight(DisplayMap x) {
        StringBuilder s = new StringBuilder();
        for (int k = 0, many = x.tight(-1); k < many; k++) {
            s.append(x.tight(k)).append(' ');
        }
        return s.toString().trim();
    }
}
