/**
 * A state that is made anew for every look at it. What a call has changed is seen by setting an object that has had
 * the call against one that has not; each look has a pair of its own, so that none has more than 512 calls.
 */
final class Twins {
    /** The calls that lead from a new object to the state. */
    interface Way {
        void go(DisplayMap x);
    }

    interface Call {
        int on(DisplayMap x);
    }

    /** A call that is looked at with several numbers. */
    interface NumberCall {
        int on(DisplayMap x, int n);
    }

    private interface Look {
        String at(DisplayMap x);
    }

    private static final Look[] LOOKS = {Twins::now, Twins::past, Twins::kept, Twins::letters};

    private final Checks checks;
    private final String name;
    private final Way way;

    Twins(Checks checks, String name, Way way) {
        this.checks = checks;
        this.name = name;
        this.way = way;
    }

    DisplayMap begin() {
        DisplayMap x = new DisplayMap();
        way.go(x);
        return x;
    }

    /** The state behind some calls more. */
    Twins then(String more, Way next) {
        return new Twins(checks, name + ", " + more, x -> {
            way.go(x);
            next.go(x);
        });
    }

    void due(String call, Call c, int want) {
        checks.due(name + ": " + call, c.on(begin()), want);
    }

    /** The call gives this answer, and all is behind it as it was. */
    void idle(String call, Call c, int want) {
        due(call, c, want);
        for (int i = 0; i < LOOKS.length; i++) {
            DisplayMap called = begin();
            c.on(called);
            checks.dueAll(name + ": look " + i + " behind " + call, LOOKS[i].at(called), LOOKS[i].at(begin()));
        }
    }

    /** Numbers next to those that are told, and far off: BAD. */
    void bad(String call, int least, int most, NumberCall c) {
        int[] outside = {least - 1, Math.max(least, most + 1), Integer.MIN_VALUE, Integer.MAX_VALUE};
        for (int n : outside) {
            idle(call + " " + n, x -> c.on(x, n), DisplayMap.BAD);
        }
    }

    /** Besides, the least and the most that are told are taken: whatever is answered, it is not BAD. */
    void numbers(String call, int least, int most, NumberCall c) {
        bad(call, least, most, c);
        int[] edges = {least, most};
        for (int n : edges) {
            if (least <= most) {
                checks.due(name + ": " + call + " " + n + " is BAD", c.on(begin(), n) == DisplayMap.BAD ? 1 : 0, 0);
            }
        }
    }

    private static String counts(DisplayMap x) {
        StringBuilder s = new StringBuilder();
        for (int what = 0; what < 12; what++) {
            s.append(x.count(what)).append(' ');
        }
        return s.toString();
    }

    private static String page(DisplayMap x) {
        return Checks.signs(x) + " " + Checks.folds(x) + " " + Checks.hints(x) + " " + counts(x);
    }

    private static String now(DisplayMap x) {
        return page(x) + x.changed(0) + " " + x.changed(1) + " " + Checks.stands(x);
    }

    private static String past(DisplayMap x) {
        StringBuilder s = new StringBuilder();
        int left = x.undo();
        for (int n = 0; n < 10 && left >= 0; n++) {
            s.append(left).append(' ').append(x.changed(0)).append(' ').append(x.changed(1)).append(' ');
            s.append(Checks.signs(x)).append(' ').append(x.count(1)).append(x.count(2)).append(x.count(3)).append('|');
            left = x.undo();
        }
        return s.append(left).toString();
    }

    private static String kept(DisplayMap x) {
        StringBuilder s = new StringBuilder();
        int left = x.back();
        for (int n = 0; n < 3 && left >= 0; n++) {
            s.append(left).append(' ').append(page(x)).append('|');
            left = x.back();
        }
        return s.append(left).toString();
    }

    /** THE TEXT is seen by its fault and by what it lays, alone and with an item more. */
    private static String letters(DisplayMap x) {
        StringBuilder s = new StringBuilder();
        s.append(x.fault()).append(' ').append(x.lay()).append(' ').append(page(x));
        s.append(x.write('b')).append(x.write('9')).append(x.write(';')).append(x.fault());
        return s.append(' ').append(x.wipe()).toString();
    }
}
