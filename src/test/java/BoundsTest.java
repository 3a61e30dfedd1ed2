/**
 * Every number that a call takes, in several states: the last that is told is taken on both sides, the first that is
 * not and those far off are BAD, and nothing has changed then.
 */
public final class BoundsTest {
    private static final Checks CHECKS = new Checks();
    private static final String FORTY = "ab>defghi/klmnopqrstuvwxyzab>defghi/klmn";

    private final Twins twins;
    private final int signs;
    private final int folds;
    private final int hints;
    private final int rows;

    private BoundsTest(String name, Twins.Way way, int signs, int folds, int hints, int rows) {
        this.twins = new Twins(CHECKS, name, way);
        this.signs = signs;
        this.folds = folds;
        this.hints = hints;
        this.rows = rows;
    }

    public static void main(String[] args) {
        new BoundsTest("new", x -> { }, 30, 2, 2, 6).all();
        new BoundsTest("nothing laid", BoundsTest::nothing, 0, 0, 0, 1).all();
        new BoundsTest("a hint alone", BoundsTest::hintAlone, 0, 0, 1, 1).all();
        new BoundsTest("one letter", BoundsTest::oneLetter, 1, 1, 0, 1).all();
        new BoundsTest("busy", BoundsTest::busy, 8, 2, 2, 3).all();
        new BoundsTest("full", BoundsTest::full, 40, 4, 4, 15).all();
        CHECKS.end();
    }

    private static void nothing(DisplayMap x) {
        x.wipe();
        x.lay();
    }

    private static void hintAlone(DisplayMap x) {
        Checks.write(x, "h0,5;");
        x.lay();
    }

    private static void oneLetter(DisplayMap x) {
        Checks.write(x, "tz;f0,1;");
        x.lay();
        x.toggle(0);
    }

    /** Eight acts can be undone, one page is kept, THE TEXT has a fault. */
    private static void busy(DisplayMap x) {
        Checks.write(x, "tab/cd;f3,5;h1,2;w1,6,1;b3;");
        x.lay();
        x.insert(5, 26);
        x.keep();
        x.insert(6, 6);
        x.set(4, 3);
        x.make(0, 2);
        x.toggle(1);
        x.wide(2, 7, 2);
        x.tabs(5);
        x.insert(0, 25);
        x.insert(0, 27);
        x.erase(5);
        Checks.write(x, "tabc;h1,2;h1,3;");
    }

    /** No room for a sign, a fold, a hint, a page, a letter. */
    private static void full(DisplayMap x) {
        Checks.write(x, "t" + FORTY + ";f0,2;f11,13;f20,21;f38,40;h0,1;h12,5;h21,4;h40,2;w2,5,1;");
        x.lay();
        x.toggle(1);
        x.keep();
        x.toggle(2);
        x.keep();
        for (int n = x.count(11); n < 200; n++) {
            x.write(';');
        }
    }

    private void all() {
        twins.due("signs", x -> x.count(0), signs);
        twins.due("folds", x -> x.count(1), folds);
        twins.due("hints", x -> x.count(2), hints);
        twins.due("rows", x -> x.count(3), rows);
        texts();
        signActs();
        foldActs();
        hintActs();
        flowActs();
        screen();
        wouldBe();
    }

    private void texts() {
        twins.numbers("write", 32, 126, (x, n) -> x.write(n));
        twins.numbers("sign", 0, signs, (x, n) -> x.sign(n));
        twins.due("sign of the last place", x -> x.sign(signs), DisplayMap.NONE);
        twins.numbers("fold", 0, folds - 1, (x, n) -> x.fold(n, 0));
        twins.bad("fold without such", 0, folds - 1, (x, n) -> x.fold(n, 2));
        if (folds > 0) {
            twins.numbers("fold what", 0, 2, (x, n) -> x.fold(folds - 1, n));
        }
        twins.numbers("hint", 0, hints - 1, (x, n) -> x.hint(n, 0));
        twins.bad("hint without such", 0, hints - 1, (x, n) -> x.hint(n, 2));
        if (hints > 0) {
            twins.numbers("hint what", 0, 2, (x, n) -> x.hint(hints - 1, n));
        }
    }

    private void signActs() {
        twins.numbers("insert at", 0, signs, (x, n) -> x.insert(n, 0));
        twins.numbers("insert sign", 0, 27, (x, n) -> x.insert(0, n));
        twins.numbers("erase", 0, signs - 1, (x, n) -> x.erase(n));
    }

    private void foldActs() {
        twins.numbers("toggle", 0, folds - 1, (x, n) -> x.toggle(n));
        twins.numbers("make from", 0, signs - 1, (x, n) -> x.make(n, signs));
        twins.numbers("make to", 1, signs, (x, n) -> x.make(0, n));
        for (int p = 0; p <= signs; p += 8) {
            int at = p;
            twins.idle("make of nothing at " + at, x -> x.make(at, at), DisplayMap.BAD);
            twins.idle("make backwards from " + at, x -> x.make(at, at - 1), DisplayMap.BAD);
        }
        twins.numbers("unfold", 0, folds - 1, (x, n) -> x.unfold(n));
    }

    private void hintActs() {
        twins.numbers("set at", 0, signs, (x, n) -> x.set(n, 1));
        twins.numbers("set wide", 1, 5, (x, n) -> x.set(0, n));
        twins.numbers("unset", 0, hints - 1, (x, n) -> x.unset(n));
    }

    private void flowActs() {
        twins.numbers("wide mode", 0, 2, (x, n) -> x.wide(n, 4, 0));
        twins.numbers("wide w", 4, 20, (x, n) -> x.wide(0, n, 3));
        twins.numbers("wide i", 0, 3, (x, n) -> x.wide(2, 20, n));
        twins.numbers("tabs", 1, 8, (x, n) -> x.tabs(n));
    }

    private void screen() {
        twins.numbers("stands", 0, signs, (x, n) -> x.stands(n, 0));
        twins.bad("stands shown", 0, signs, (x, n) -> x.stands(n, 2));
        twins.numbers("stands what", 0, 2, (x, n) -> x.stands(signs, n));
        twins.numbers("place row", 0, rows - 1, (x, n) -> x.place(n, 99));
        twins.numbers("place column", 0, 99, (x, n) -> x.place(rows - 1, n));
        twins.numbers("screen row", 0, rows - 1, (x, n) -> x.screen(n, 99));
        twins.numbers("screen column", 0, 99, (x, n) -> x.screen(rows - 1, n));
        for (int w = 0; w < 4; w++) {
            int way = w;
            twins.numbers("go way " + way, 0, signs, (x, n) -> x.go(n, way));
        }
        twins.numbers("go", 0, 3, (x, n) -> x.go(signs, n));
        twins.numbers("row", 0, rows - 1, (x, n) -> x.row(n, 0));
        twins.bad("row begins", 0, rows - 1, (x, n) -> x.row(n, 1));
        twins.numbers("row what", 0, 1, (x, n) -> x.row(rows - 1, n));
        twins.numbers("changed", 0, 1, (x, n) -> x.changed(n));
    }

    private void wouldBe() {
        twins.numbers("fit", 1, 40, (x, n) -> x.fit(n));
        twins.numbers("saves", 0, 1, (x, n) -> x.saves(n));
        twins.idle("tight -2", x -> x.tight(-2), DisplayMap.BAD);
        twins.idle("tight least", x -> x.tight(Integer.MIN_VALUE), DisplayMap.BAD);
        twins.idle("tight most", x -> x.tight(Integer.MAX_VALUE), DisplayMap.NONE);
        twins.numbers("day z", 0, 9999, (x, n) -> x.day(n, 1, 0));
        twins.numbers("day n", 1, 40, (x, n) -> x.day(0, n, 0));
        twins.numbers("day what", 0, 2, (x, n) -> x.day(9999, 40, n));
        twins.numbers("count", 0, 11, (x, n) -> x.count(n));
    }
}
