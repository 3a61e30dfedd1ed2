/** NO, FULL and NONE of every call: when they are answered, that nothing has changed then, and what gives room again. */
public final class RefusalsTest {
    private static final Checks CHECKS = new Checks();
    private static final String FORTY = "abcdefghijklmnopqrstuvwxyzabcdefghijklmn";

    public static void main(String[] args) {
        writeFull();
        layRefused();
        insertFull();
        makeRefused();
        makeRoomAgain();
        setRefused();
        setRoomAgain();
        wideSame();
        tabsSame();
        undoRefused();
        undoEight();
        keepFull();
        backRefused();
        asking();
        refusedActsAreNoActs();
        CHECKS.end();
    }

    private static void due(String call, long got, long want) {
        CHECKS.due(call, got, want);
    }

    private static Twins laid(String text) {
        return new Twins(CHECKS, text, x -> {
            Checks.write(x, text);
            x.lay();
        });
    }

    /** A state with a past, a page kept and a text, behind which nothing may be lost. */
    private static Twins busy(String text) {
        return laid(text).then("busy", x -> {
            x.tabs(7);
            x.keep();
            x.wide(2, 11, 3);
            x.write('b');
        });
    }

    private static void writeLetters(DisplayMap x, int many) {
        for (int n = 0; n < many; n++) {
            x.write('t');
        }
    }

    private static void writeFull() {
        Twins almost = new Twins(CHECKS, "199 letters", x -> writeLetters(x, 199));
        almost.due("write", x -> x.write('a'), 200);
        Twins full = almost.then("one more", x -> x.write('a'));
        full.idle("write 32", x -> x.write(32), DisplayMap.FULL);
        full.idle("write 126", x -> x.write(126), DisplayMap.FULL);
        full.idle("write 31, BAD first", x -> x.write(31), DisplayMap.BAD);
        full.idle("write 127, BAD first", x -> x.write(127), DisplayMap.BAD);
        full.due("count 11", x -> x.count(11), 200);
        full.due("wipe", x -> x.wipe(), 200);
        full.then("wiped", x -> x.wipe()).due("write", x -> x.write('a'), 1);
        full.then("wiped", x -> x.wipe()).due("wipe of nothing", x -> x.wipe(), 0);
        full.idle("lay gives no room", x -> x.lay(), DisplayMap.NO);
        Twins brim = new Twins(CHECKS, "200 letters without fault", x -> {
            Checks.write(x, "tab;");
            for (int n = 0; n < 49; n++) {
                x.write('b');
                x.write('0');
                x.write('1' + n % 8);
                x.write(';');
            }
        });
        brim.due("count 11", x -> x.count(11), 200);
        brim.idle("fault", x -> x.fault(), DisplayMap.NONE);
        brim.idle("write", x -> x.write(';'), DisplayMap.FULL);
        brim.due("lay", x -> x.lay(), 2);
        brim.then("lay", x -> x.lay()).due("the last of 49", x -> x.count(8), 1);
        brim.then("lay", x -> x.lay()).idle("write", x -> x.write(';'), DisplayMap.FULL);
    }

    private static void layRefused() {
        String[] faulty = {"t", ";", "ta;x;", "ta;f0,2;", "ta;h2,1;", "w1,3,0;", "b9;", "b3;ta;", "t" + FORTY + "a;"};
        for (String text : faulty) {
            Twins t = busy("tabc;f0,2;h1,2;").then("told " + text, x -> Checks.write(x, text));
            t.idle("lay of " + text, x -> x.lay(), DisplayMap.NO);
        }
        Twins mended = busy("tabc;f0,2;h1,2;").then("told ta;b9", x -> Checks.write(x, "ta;b9"));
        mended.idle("lay", x -> x.lay(), DisplayMap.NO);
        Twins anew = mended.then("told anew", x -> Checks.write(x, "ta;b8;"));
        anew.due("lay", x -> x.lay(), 1);
        Twins done = anew.then("laid", x -> x.lay());
        done.due("nothing is undone", x -> x.undo(), DisplayMap.NO);
        done.due("nothing is kept", x -> x.back(), DisplayMap.NO);
        done.due("nothing changed", x -> x.changed(0), DisplayMap.NONE);
        done.due("no row changed", x -> x.changed(1), 0);
        done.due("no fold", x -> x.count(1), 0);
        done.due("no hint", x -> x.count(2), 0);
        done.due("letters", x -> x.count(11), 6);
        done.due("mode without", x -> x.count(5), 1);
        done.due("wide without", x -> x.count(6), 8);
        done.due("indent without", x -> x.count(7), 0);
        done.due("tabs", x -> x.count(8), 8);
    }

    private static void insertFull() {
        Twins full = busy("t" + FORTY + ";f0,3;h40,1;");
        for (int at = 0; at <= 40; at += 20) {
            int p = at;
            full.idle("insert at " + p, x -> x.insert(p, 0), DisplayMap.FULL);
            full.idle("an end at " + p, x -> x.insert(p, 27), DisplayMap.FULL);
        }
        full.idle("insert at 41, BAD first", x -> x.insert(41, 0), DisplayMap.BAD);
        full.idle("insert at -1, BAD first", x -> x.insert(-1, 0), DisplayMap.BAD);
        full.idle("insert sign 28, BAD first", x -> x.insert(0, 28), DisplayMap.BAD);
        full.idle("insert sign -1, BAD first", x -> x.insert(0, -1), DisplayMap.BAD);
        Twins erased = full.then("erase 39", x -> x.erase(39));
        erased.due("room again", x -> x.insert(39, 25), 40);
        erased.then("insert", x -> x.insert(39, 25)).idle("full again", x -> x.insert(0, 0), DisplayMap.FULL);
        erased.then("undo", x -> x.undo()).idle("full by undo", x -> x.insert(0, 0), DisplayMap.FULL);
        Twins grown = laid("t" + FORTY.substring(1) + ";").then("insert", x -> x.insert(39, 0));
        grown.idle("full by insert", x -> x.insert(0, 0), DisplayMap.FULL);
        grown.then("undo", x -> x.undo()).due("room by undo", x -> x.insert(0, 0), 40);
        Twins kept = laid("t" + FORTY.substring(1) + ";").then("keep, insert, back", x -> {
            x.keep();
            x.insert(0, 0);
            x.back();
        });
        kept.due("room by back", x -> x.insert(0, 0), 40);
        full.then("another text", x -> {
            Checks.write(x, "t" + FORTY.substring(1) + ";");
            x.lay();
        }).due("room by lay", x -> x.insert(39, 0), 40);
    }

    private static void makeRefused() {
        Twins three = busy("tabcdefghij;f2,4;f6,8;f8,9;");
        int[][] shared = {{0, 3}, {1, 3}, {2, 3}, {2, 4}, {3, 4}, {3, 5}, {1, 5}, {3, 6}, {5, 7}, {7, 9}, {8, 10}, {0, 10}};
        for (int[] ab : shared) {
            three.idle("make " + ab[0] + " " + ab[1], x -> x.make(ab[0], ab[1]), DisplayMap.NO);
        }
        three.idle("make 3 11, BAD first", x -> x.make(3, 11), DisplayMap.BAD);
        three.idle("make -1 3, BAD first", x -> x.make(-1, 3), DisplayMap.BAD);
        three.idle("make 3 3, BAD first", x -> x.make(3, 3), DisplayMap.BAD);
        three.idle("make 4 2, BAD first", x -> x.make(4, 2), DisplayMap.BAD);
        three.due("make up to one", x -> x.make(0, 2), 0);
        three.due("make between two", x -> x.make(4, 6), 1);
        three.due("make behind one", x -> x.make(9, 10), 3);
        Twins open = three.then("toggle 0", x -> x.toggle(0));
        open.idle("an open fold has its signs, too", x -> x.make(3, 5), DisplayMap.NO);
        Twins four = three.then("make 4 6", x -> x.make(4, 6));
        four.idle("make a fifth", x -> x.make(0, 2), DisplayMap.FULL);
        four.idle("make a fifth at the end", x -> x.make(9, 10), DisplayMap.FULL);
        four.idle("make a fifth over one, NO first", x -> x.make(8, 10), DisplayMap.NO);
        four.idle("make a fifth too far, BAD first", x -> x.make(9, 11), DisplayMap.BAD);
        four.idle("make a fifth of nothing, BAD first", x -> x.make(1, 1), DisplayMap.BAD);
    }

    private static void makeRoomAgain() {
        Twins four = busy("tabcdefghij;f2,4;f4,6;f6,8;f8,9;");
        four.then("unfold 3", x -> x.unfold(3)).due("room by unfold", x -> x.make(0, 2), 0);
        four.then("erase 8", x -> x.erase(8)).due("room by erase", x -> x.make(8, 9), 3);
        four.then("erase 2", x -> x.erase(2)).idle("no room yet", x -> x.make(0, 1), DisplayMap.FULL);
        four.then("erase 2 twice", x -> {
            x.erase(2);
            x.erase(2);
        }).due("room by both", x -> x.make(0, 1), 0);
        four.then("unfold, undo", x -> {
            x.unfold(0);
            x.undo();
        }).idle("full by undo", x -> x.make(0, 1), DisplayMap.FULL);
        laid("tabcdefghij;f2,4;f4,6;f6,8;").then("make, undo", x -> {
            x.make(0, 1);
            x.undo();
        }).due("room by undo", x -> x.make(1, 2), 0);
        Twins bare = laid("tab;");
        bare.due("the first", x -> x.make(0, 2), 0);
        bare.then("make 0 1", x -> x.make(0, 1)).due("behind it", x -> x.make(1, 2), 1);
    }

    private static void setRefused() {
        Twins three = busy("tabcd;h0,1;h2,5;h4,3;");
        int[] taken = {0, 2, 4};
        for (int at : taken) {
            three.idle("set where there is one: " + at, x -> x.set(at, 2), DisplayMap.NO);
            three.idle("set of 0 where there is one, BAD first", x -> x.set(at, 0), DisplayMap.BAD);
            three.idle("set of 6 where there is one, BAD first", x -> x.set(at, 6), DisplayMap.BAD);
        }
        three.due("set of 1", x -> x.set(1, 1), 1);
        three.due("set of 5", x -> x.set(3, 5), 2);
        Twins four = three.then("set 3", x -> x.set(3, 5));
        four.idle("a fifth", x -> x.set(1, 1), DisplayMap.FULL);
        four.idle("a fifth where there is one, NO first", x -> x.set(4, 1), DisplayMap.NO);
        four.idle("a fifth behind all, BAD first", x -> x.set(5, 1), DisplayMap.BAD);
        four.idle("a fifth of 6, BAD first", x -> x.set(1, 6), DisplayMap.BAD);
        Twins last = laid("tab;h2,1;");
        last.idle("set at the last place", x -> x.set(2, 5), DisplayMap.NO);
        laid("t;").due("set without signs", x -> x.set(0, 5), 0);
        laid("t;h0,1;").idle("set again without signs", x -> x.set(0, 5), DisplayMap.NO);
    }

    private static void setRoomAgain() {
        Twins four = busy("tabcdef;h0,1;h2,5;h3,3;h6,4;");
        four.then("unset 3", x -> x.unset(3)).due("room by unset", x -> x.set(6, 2), 3);
        four.then("erase 2", x -> x.erase(2)).due("room by a hint that goes", x -> x.set(1, 2), 1);
        four.then("erase 0", x -> x.erase(0)).idle("no room by one that stays", x -> x.set(1, 2), DisplayMap.NO);
        four.then("erase 0", x -> x.erase(0)).idle("no room by one that stays", x -> x.set(3, 2), DisplayMap.FULL);
        four.then("unset, undo", x -> {
            x.unset(0);
            x.undo();
        }).idle("full by undo", x -> x.set(1, 1), DisplayMap.FULL);
        laid("tabcdef;h0,1;h2,5;h3,3;").then("set, undo", x -> {
            x.set(1, 1);
            x.undo();
        }).due("room by undo", x -> x.set(6, 1), 3);
    }

    private static void wideSame() {
        int[] modes = {0, 1, 2};
        int[] widths = {4, 20};
        int[] indents = {0, 3};
        for (int m : modes) {
            for (int w : widths) {
                for (int i : indents) {
                    Twins t = laid("tab;w" + m + "," + w + "," + i + ";");
                    t.idle("the same", x -> x.wide(m, w, i), DisplayMap.NO);
                    t.due("another mode", x -> x.wide((m + 1) % 3, w, i), 1);
                    t.due("another w", x -> x.wide(m, 24 - w, i), 1);
                    t.due("another i", x -> x.wide(m, w, 3 - i), 1);
                }
            }
        }
        laid("t;").idle("the same as without", x -> x.wide(1, 8, 0), DisplayMap.NO);
    }

    private static void tabsSame() {
        for (int t = 1; t <= 8; t++) {
            int was = t;
            Twins told = laid("tab;b" + t + ";");
            told.idle("the same", x -> x.tabs(was), DisplayMap.NO);
            told.due("another", x -> x.tabs(9 - was), was);
        }
        laid("t;").idle("the same as without", x -> x.tabs(4), DisplayMap.NO);
    }

    private static void undoRefused() {
        new Twins(CHECKS, "new", x -> { }).idle("undo", x -> x.undo(), DisplayMap.NO);
        laid("tab;").idle("undo behind lay", x -> x.undo(), DisplayMap.NO);
        laid("tab;").then("insert, undo", x -> {
            x.insert(0, 0);
            x.undo();
        }).idle("undo behind undo", x -> x.undo(), DisplayMap.NO);
        busy("tab;").then("back", x -> x.back()).idle("undo behind back", x -> x.undo(), DisplayMap.NO);
        busy("tab;").then("lay", x -> {
            Checks.write(x, "ta;");
            x.lay();
        }).idle("undo behind lay", x -> x.undo(), DisplayMap.NO);
    }

    /** The last 8 can be undone, however many there were, and as many more as come behind an undo. */
    private static void undoEight() {
        for (int acts = 0; acts <= 20; acts++) {
            DisplayMap x = Checks.laid("t;");
            for (int n = 0; n < acts; n++) {
                due("insert", x.insert(n, n), n + 1);
                due("can be undone", x.count(9), Math.min(8, n + 1));
            }
            int can = Math.min(8, acts);
            for (int n = can - 1; n >= 0; n--) {
                due("undo " + acts, x.undo(), n);
            }
            due("undo no more", x.undo(), DisplayMap.NO);
            CHECKS.dueAll("left", Checks.signs(x), "abcdefghijklmnopqrstuvwxyz".substring(0, acts - can));
        }
        DisplayMap x = Checks.laid("t;");
        for (int n = 0; n < 8; n++) {
            x.insert(n, n);
        }
        due("undo one", x.undo(), 7);
        due("undo another", x.undo(), 6);
        x.insert(6, 23);
        x.insert(7, 24);
        due("eight again", x.count(9), 8);
        x.insert(8, 25);
        due("eight at most", x.count(9), 8);
        for (int n = 7; n >= 0; n--) {
            due("undo to " + n, x.undo(), n);
        }
        CHECKS.dueAll("the first is left", Checks.signs(x), "a");
    }

    private static void keepFull() {
        Twins one = busy("tab;");
        one.due("keep a second", x -> x.keep(), 2);
        Twins two = one.then("keep", x -> x.keep());
        two.idle("keep a third", x -> x.keep(), DisplayMap.FULL);
        two.due("kept", x -> x.count(10), 2);
        two.then("back", x -> x.back()).due("room by back", x -> x.keep(), 2);
        two.then("undo", x -> x.undo()).idle("none by undo", x -> x.keep(), DisplayMap.FULL);
        two.then("lay", x -> {
            Checks.write(x, "ta;");
            x.lay();
        }).due("room by lay", x -> x.keep(), 1);
        two.then("lay refused", x -> {
            Checks.write(x, "ta");
            x.lay();
        }).idle("none by a lay refused", x -> x.keep(), DisplayMap.FULL);
        new Twins(CHECKS, "new", x -> { }).due("keep the first", x -> x.keep(), 1);
        laid("").due("keep nothing at all", x -> x.keep(), 1);
    }

    private static void backRefused() {
        new Twins(CHECKS, "new", x -> { }).idle("back", x -> x.back(), DisplayMap.NO);
        laid("tab;").then("insert", x -> x.insert(0, 0)).idle("nothing kept", x -> x.back(), DisplayMap.NO);
        busy("tab;").then("back", x -> x.back()).idle("nothing left", x -> x.back(), DisplayMap.NO);
        busy("tab;").then("back, insert", x -> {
            x.back();
            x.insert(0, 0);
        }).idle("nothing left, an act done", x -> x.back(), DisplayMap.NO);
        busy("tab;").then("lay", x -> {
            Checks.write(x, "ta;");
            x.lay();
        }).idle("nothing kept behind lay", x -> x.back(), DisplayMap.NO);
    }

    /** What only asks, or writes, changes nothing else. */
    private static void asking() {
        Twins t = busy("tab/cdefgh;f1,3;f4,6;h4,2;").then("toggle", x -> x.toggle(1));
        t.idle("fault", x -> x.fault(), 26);
        t.idle("sign of the last place", x -> x.sign(9), DisplayMap.NONE);
        t.idle("fold", x -> x.fold(1, 2), 0);
        t.idle("hint", x -> x.hint(0, 2), 1);
        t.idle("stands", x -> x.stands(2, 2), 0);
        t.idle("place", x -> x.place(0, 99), 9);
        t.idle("screen of nothing", x -> x.screen(0, 99), DisplayMap.NONE);
        t.idle("right of all", x -> x.go(9, 0), DisplayMap.NONE);
        t.idle("left of all", x -> x.go(0, 1), DisplayMap.NONE);
        t.idle("above all", x -> x.go(0, 2), DisplayMap.NONE);
        t.idle("below all", x -> x.go(9, 3), DisplayMap.NONE);
        t.idle("row", x -> x.row(0, 0), 10);
        t.idle("changed", x -> x.changed(1), 1);
        t.idle("fit", x -> x.fit(1), 10);
        t.idle("saves", x -> x.saves(0), 1);
        t.idle("tight", x -> x.tight(-1), 0);
        t.idle("not so many tight", x -> x.tight(0), DisplayMap.NONE);
        for (int what = 0; what < 3; what++) {
            int w = what;
            t.idle("day " + w, x -> x.day(9999, 40, w) < 0 ? 0 : 1, 1);
        }
    }

    /** A refused act is none: what changed latest and what is undone next stay those of the act ahead of it. */
    private static void refusedActsAreNoActs() {
        Twins t = laid("tabcd/ef;f0,1;f2,3;f3,4;f5,6;h0,1;h1,1;h6,1;h7,1;w1,4,0;").then("toggle", x -> x.toggle(3));
        t.due("changed", x -> x.changed(0), 2);
        t.idle("insert", x -> x.insert(8, 0), DisplayMap.BAD);
        t.idle("erase", x -> x.erase(7), DisplayMap.BAD);
        t.idle("toggle", x -> x.toggle(4), DisplayMap.BAD);
        t.idle("make, BAD", x -> x.make(7, 7), DisplayMap.BAD);
        t.idle("make, NO", x -> x.make(1, 3), DisplayMap.NO);
        t.idle("make, FULL", x -> x.make(1, 2), DisplayMap.FULL);
        t.idle("unfold", x -> x.unfold(4), DisplayMap.BAD);
        t.idle("set, BAD", x -> x.set(2, 6), DisplayMap.BAD);
        t.idle("set, NO", x -> x.set(7, 1), DisplayMap.NO);
        t.idle("set, FULL", x -> x.set(2, 1), DisplayMap.FULL);
        t.idle("unset", x -> x.unset(4), DisplayMap.BAD);
        t.idle("wide, BAD", x -> x.wide(1, 21, 0), DisplayMap.BAD);
        t.idle("wide, NO", x -> x.wide(1, 4, 0), DisplayMap.NO);
        t.idle("tabs, BAD", x -> x.tabs(0), DisplayMap.BAD);
        t.idle("tabs, NO", x -> x.tabs(4), DisplayMap.NO);
        t.idle("back", x -> x.back(), DisplayMap.NO);
    }
}
