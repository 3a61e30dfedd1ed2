import java.util.ArrayList;
import java.util.List;
import java.util.Random;

/** Runs of calls drawn from fixed seeds, of 512 calls at most, on DisplayMap and on Model: both answer the same. */
public final class ModelTest {
    private static final int RUNS = 1500;
    private static final int CALLS = 512;
    private static final int[] WILD = {
        Integer.MIN_VALUE, -65536, -100, -2, -1, 0, 1, 39, 40, 41, 44, 45, 99, 100, 127, 10000, 65536, Integer.MAX_VALUE};

    private final Random random;
    private final DisplayMap x = new DisplayMap();
    private final Model m = new Model();
    private final List<String> calls = new ArrayList<>();
    private boolean wrong = false;

    private ModelTest(long seed) {
        random = new Random(seed);
    }

    public static void main(String[] args) {
        int failed = 0;
        for (int seed = 0; seed < RUNS && failed < 5; seed++) {
            ModelTest run = new ModelTest(seed);
            run.go();
            if (run.wrong) {
                failed++;
                System.out.println("seed " + seed + ": " + String.join(" ", run.calls));
            }
        }
        System.out.println(RUNS + " runs, " + failed + " not as the model says");
        if (failed != 0) {
            System.exit(1);
        }
    }

    private void go() {
        boolean askMuch = random.nextBoolean();
        if (random.nextInt(4) > 0) {
            layText();
        }
        while (calls.size() < CALLS && !wrong) {
            if (random.nextInt(60) == 0) {
                layText();
            }
            if (calls.size() < CALLS) {
                step(askMuch ? random.nextInt(30) : 7 + random.nextInt(16));
            }
        }
    }

    private int upTo(int most) {
        return most < 0 ? 0 : random.nextInt(most + 1);
    }

    /** Mostly a number that is told, now and then one next to them or far off. */
    private int number(int least, int most) {
        int way = random.nextInt(40);
        if (way == 0) {
            return WILD[random.nextInt(WILD.length)];
        }
        if (way == 1) {
            return least - 1;
        }
        if (way == 2) {
            return most + 1;
        }
        return least + upTo(most - least);
    }

    private void same(String call, int got, int want) {
        if (wrong || calls.size() >= CALLS) {
            return;
        }
        calls.add(call + "=" + got);
        if (got != want) {
            wrong = true;
            calls.add("(due " + want + ")");
        }
    }

    private void layText() {
        String text = text();
        if (calls.size() + text.length() + 3 > CALLS) {
            return;
        }
        if (random.nextInt(8) > 0) {
            same("wipe", x.wipe(), m.wipe());
        }
        for (int i = 0; i < text.length(); i++) {
            same("write " + text.charAt(i), x.write(text.charAt(i)), m.write(text.charAt(i)));
        }
        same("fault", x.fault(), m.fault());
        same("lay", x.lay(), m.lay());
    }

    private String text() {
        StringBuilder s = new StringBuilder();
        int signs = 0;
        if (random.nextInt(12) > 0) {
            signs = random.nextInt(5) == 0 ? 36 + upTo(5) : upTo(36);
            s.append('t');
            int tabs = upTo(4);
            int ends = upTo(4);
            for (int i = 0; i < signs; i++) {
                int kind = random.nextInt(20);
                s.append(kind < tabs ? '>' : kind < tabs + ends ? '/' : (char) ('a' + random.nextInt(26)));
            }
            s.append(';');
        }
        int items = upTo(9);
        for (int k = 0; k < items; k++) {
            item(s, signs);
        }
        int spoil = random.nextInt(12);
        if (spoil == 0 && s.length() > 0) {
            s.setCharAt(random.nextInt(s.length()), (char) (32 + random.nextInt(95)));
        } else if (spoil == 1 && s.length() > 0) {
            s.deleteCharAt(random.nextInt(s.length()));
        } else if (spoil == 2) {
            s.append("tab;");
        }
        return s.toString();
    }

    private void item(StringBuilder s, int signs) {
        int a = upTo(signs);
        switch (random.nextInt(8)) {
            case 0: case 1: case 2:
                s.append('f').append(figures(a)).append(',').append(figures(Math.min(signs, a + 1 + upTo(6))));
                break;
            case 3: case 4: case 5:
                s.append('h').append(figures(a)).append(',').append(1 + upTo(4));
                break;
            case 6:
                s.append('w').append(upTo(2)).append(',').append(4 + upTo(random.nextBoolean() ? 4 : 16));
                s.append(',').append(upTo(3));
                break;
            default:
                s.append('b').append(figures(1 + upTo(7)));
        }
        s.append(';');
    }

    private String figures(int n) {
        return n < 10 && random.nextInt(6) == 0 ? "0" + n : "" + n;
    }

    private int somePlace() {
        return number(0, m.count(0));
    }

    private int someRow() {
        return number(0, m.count(3) - 1);
    }

    private void step(int kind) {
        int a;
        int b;
        int c;
        switch (kind) {
            case 0: a = number(32, 126); same("write " + a, x.write(a), m.write(a)); break;
            case 1: if (random.nextInt(5) == 0) { same("wipe", x.wipe(), m.wipe()); } break;
            case 2: same("fault", x.fault(), m.fault()); break;
            case 3: if (random.nextInt(10) == 0) { same("lay", x.lay(), m.lay()); } break;
            case 4: a = somePlace(); same("sign " + a, x.sign(a), m.sign(a)); break;
            case 5: a = number(0, m.count(1) - 1); b = number(0, 2);
                same("fold " + a + " " + b, x.fold(a, b), m.fold(a, b)); break;
            case 6: a = number(0, m.count(2) - 1); b = number(0, 2);
                same("hint " + a + " " + b, x.hint(a, b), m.hint(a, b)); break;
            case 7: a = somePlace(); b = random.nextInt(3) == 0 ? 26 + upTo(1) : number(0, 27);
                same("insert " + a + " " + b, x.insert(a, b), m.insert(a, b)); break;
            case 8: a = somePlace(); same("erase " + a, x.erase(a), m.erase(a)); break;
            case 9: a = number(0, m.count(1) - 1); same("toggle " + a, x.toggle(a), m.toggle(a)); break;
            case 10: a = somePlace(); b = random.nextInt(3) == 0 ? somePlace() : a + 1 + upTo(6);
                same("make " + a + " " + b, x.make(a, b), m.make(a, b)); break;
            case 11: if (random.nextInt(3) == 0) { a = number(0, m.count(1) - 1);
                same("unfold " + a, x.unfold(a), m.unfold(a)); } break;
            case 12: a = somePlace(); b = number(1, 5); same("set " + a + " " + b, x.set(a, b), m.set(a, b)); break;
            case 13: if (random.nextInt(3) == 0) { a = number(0, m.count(2) - 1);
                same("unset " + a, x.unset(a), m.unset(a)); } break;
            case 14: a = number(0, 2); b = number(4, random.nextBoolean() ? 9 : 20); c = number(0, 3);
                same("wide " + a + " " + b + " " + c, x.wide(a, b, c), m.wide(a, b, c)); break;
            case 15: a = number(1, 8); same("tabs " + a, x.tabs(a), m.tabs(a)); break;
            case 16: same("undo", x.undo(), m.undo()); break;
            default: ask(kind);
        }
    }

    private void ask(int kind) {
        int a;
        int b;
        int c;
        switch (kind) {
            case 17: a = number(0, 1); same("changed " + a, x.changed(a), m.changed(a)); break;
            case 18: a = somePlace(); b = number(0, 2); same("stands " + a + " " + b, x.stands(a, b), m.stands(a, b)); break;
            case 19: a = someRow(); b = number(0, random.nextBoolean() ? 12 : 99);
                same("place " + a + " " + b, x.place(a, b), m.place(a, b)); break;
            case 20: a = someRow(); b = number(0, random.nextBoolean() ? 12 : 99);
                same("screen " + a + " " + b, x.screen(a, b), m.screen(a, b)); break;
            case 21: a = somePlace(); b = number(0, 3); same("go " + a + " " + b, x.go(a, b), m.go(a, b)); break;
            case 22: a = someRow(); b = number(0, 1); same("row " + a + " " + b, x.row(a, b), m.row(a, b)); break;
            case 23: a = number(1, random.nextBoolean() ? 8 : 40); same("fit " + a, x.fit(a), m.fit(a)); break;
            case 24: a = number(0, 1); same("saves " + a, x.saves(a), m.saves(a)); break;
            case 25: a = number(-1, 12); same("tight " + a, x.tight(a), m.tight(a)); break;
            case 26: a = number(0, 9999); b = number(1, 40); c = number(0, 2);
                same("day " + a + " " + b + " " + c, x.day(a, b, c), m.day(a, b, c)); break;
            case 27: same("keep", x.keep(), m.keep()); break;
            case 28: if (random.nextInt(3) == 0) { same("back", x.back(), m.back()); } break;
            default: a = number(0, 11); same("count " + a, x.count(a), m.count(a));
        }
    }
}
