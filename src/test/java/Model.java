import java.util.ArrayList;
import java.util.List;
import java.util.regex.Matcher;
import java.util.regex.Pattern;

/**
 * The document once more, in another way: every sign bears its hint and its fold itself, and the screen is a
 * list of cells. It is slow and makes objects freely; ModelTest sets it against DisplayMap.
 */
final class Model {
    static final int BAD = -1, NO = -2, FULL = -3, NONE = -4;

    private static final class Fold {
        boolean shut = true;
    }

    private static final class Sign {
        int code;
        int hint;
        Fold fold;

        Sign(int code) {
            this.code = code;
        }
    }

    private static final class Page {
        /** One more than there are signs: the last has no code and stands for the last place. */
        List<Sign> signs = new ArrayList<>();
        int mode = 1, w = 8, i = 0, t = 4;

        Page() {
            signs.add(new Sign(NONE));
        }

        int size() {
            return signs.size() - 1;
        }

        List<Fold> folds() {
            List<Fold> all = new ArrayList<>();
            for (Sign s : signs) {
                if (s.fold != null && !all.contains(s.fold)) {
                    all.add(s.fold);
                }
            }
            return all;
        }

        List<Integer> hints() {
            List<Integer> all = new ArrayList<>();
            for (int p = 0; p < signs.size(); p++) {
                if (signs.get(p).hint > 0) {
                    all.add(p);
                }
            }
            return all;
        }

        int first(Fold f) {
            int p = 0;
            while (signs.get(p).fold != f) {
                p++;
            }
            return p;
        }

        int behind(Fold f) {
            int p = size();
            while (signs.get(p - 1).fold != f) {
                p--;
            }
            return p;
        }

        boolean shown(int p) {
            Fold f = signs.get(p).fold;
            return f == null || !f.shut || first(f) == p;
        }

        void putIn(int p, int code) {
            Sign s = new Sign(code);
            Fold f = signs.get(p).fold;
            if (f != null && p > 0 && signs.get(p - 1).fold == f) {
                s.fold = f;
            }
            signs.add(p, s);
        }

        void takeOut(int p) {
            Sign s = signs.remove(p);
            if (signs.get(p).hint == 0) {
                signs.get(p).hint = s.hint;
            }
        }

        Page copy() {
            Page q = new Page();
            q.signs.clear();
            List<Fold> mine = folds();
            List<Fold> theirs = new ArrayList<>();
            for (Fold f : mine) {
                Fold g = new Fold();
                g.shut = f.shut;
                theirs.add(g);
            }
            for (Sign s : signs) {
                Sign c = new Sign(s.code);
                c.hint = s.hint;
                c.fold = s.fold == null ? null : theirs.get(mine.indexOf(s.fold));
                q.signs.add(c);
            }
            q.mode = mode;
            q.w = w;
            q.i = i;
            q.t = t;
            return q;
        }

        Grid grid() {
            return new Grid(this);
        }
    }

    /** A piece of what stands: a hint, a sign, or a fold sign. */
    private static final class Piece {
        final int code, place, wide;
        int row, column, width;

        Piece(int code, int place, int wide) {
            this.code = code;
            this.place = place;
            this.wide = wide;
        }

        boolean word() {
            return code != 26 && code != 27;
        }
    }

    private static final class Line {
        final List<Piece> pieces = new ArrayList<>();
        final boolean first;
        int end;

        Line(boolean first, int column) {
            this.first = first;
            this.end = column;
        }

        boolean empty() {
            return pieces.isEmpty();
        }

        String look() {
            StringBuilder s = new StringBuilder();
            for (Piece p : pieces) {
                if (p.code != 27) {
                    s.append(p.code).append('@').append(p.column).append('+').append(p.width).append(' ');
                }
            }
            return s.toString();
        }
    }

    private static final class Grid {
        final List<Line> lines = new ArrayList<>();
        final int last;

        Grid(Page page) {
            last = page.size();
            List<Piece> all = new ArrayList<>();
            for (int p = 0; p <= last; p++) {
                if (page.shown(p)) {
                    Sign s = page.signs.get(p);
                    if (s.hint > 0) {
                        all.add(new Piece(29, p, s.hint));
                    }
                    if (p < last) {
                        all.add(new Piece(s.fold != null && s.fold.shut ? 28 : s.code, p, 1));
                    }
                }
            }
            lines.add(new Line(true, 0));
            for (int k = 0; k < all.size(); k++) {
                stand(page, all, k);
            }
        }

        private Line lowest() {
            return lines.get(lines.size() - 1);
        }

        private static int widthOf(Piece x, int column, int t) {
            if (x.code == 27) {
                return 0;
            }
            if (x.code != 26) {
                return x.wide;
            }
            int next = column + 1;
            while (next % t != 0) {
                next++;
            }
            return next - column;
        }

        private void stand(Page page, List<Piece> all, int k) {
            Piece x = all.get(k);
            int column = lowest().end;
            if (x.code != 27 && page.mode != 0 && !lowest().empty()) {
                boolean on = column + widthOf(x, column, page.t) > page.w;
                if (page.mode == 2 && x.word() && (k == 0 || !all.get(k - 1).word())) {
                    int word = 0;
                    for (int j = k; j < all.size() && all.get(j).word(); j++) {
                        word += all.get(j).wide;
                    }
                    on |= column + word > page.w && page.i + word <= page.w;
                }
                if (on) {
                    lines.add(new Line(false, page.i));
                    column = page.i;
                }
            }
            x.row = lines.size() - 1;
            x.column = column;
            x.width = widthOf(x, column, page.t);
            lowest().pieces.add(x);
            lowest().end += x.width;
            if (x.code == 27) {
                lines.add(new Line(true, 0));
            }
        }

        int rows() {
            return lines.size();
        }

        int columns() {
            int most = 0;
            for (Line line : lines) {
                most = Math.max(most, line.end);
            }
            return most;
        }

        int at(int row, int column) {
            List<Piece> pieces = lines.get(row).pieces;
            for (Piece p : pieces) {
                if (p.column <= column && column < p.column + p.width) {
                    return p.place;
                }
            }
            if (!pieces.isEmpty() && column < pieces.get(0).column) {
                return pieces.get(0).place;
            }
            if (row == rows() - 1) {
                return last;
            }
            return pieces.get(pieces.size() - 1).place;
        }

        int code(int row, int column) {
            for (Piece p : lines.get(row).pieces) {
                if (p.column <= column && column < p.column + p.width) {
                    return p.code;
                }
            }
            return NONE;
        }

        Piece of(int place) {
            Piece found = null;
            for (Line line : lines) {
                for (Piece p : line.pieces) {
                    if (p.code != 29 && p.place <= place) {
                        found = p;
                    }
                }
            }
            return found;
        }
    }

    private StringBuilder text = new StringBuilder();
    private Page page = read("tab>cdefghij/klm>no/pqrstuvwxyz;f6,9;f18,21;h3,2;h11,4;w2,7,1;b3;");
    private Grid grid = page.grid();
    private Grid former = null;
    private final List<Page> undos = new ArrayList<>();
    private final List<Page> keeps = new ArrayList<>();

    /** Where the reading of the latest text stopped. */
    private int faultAt;

    private Page read(String letters) {
        Page p = new Page();
        faultAt = NONE;
        int from = 0;
        while (from < letters.length()) {
            int to = letters.indexOf(';', from);
            if (to < 0 || !item(p, letters.substring(from, to), from)) {
                faultAt = from;
                return p;
            }
            from = to + 1;
        }
        return p;
    }

    private static boolean item(Page p, String item, int from) {
        if (item.matches("t[a-z>/]{0,40}") && from == 0) {
            for (char c : item.substring(1).toCharArray()) {
                p.putIn(p.size(), c == '>' ? 26 : c == '/' ? 27 : c - 'a');
            }
            return true;
        }
        Matcher m = Pattern.compile("([fhwb])(\\d\\d?)(?:,(\\d\\d?))?(?:,(\\d\\d?))?").matcher(item);
        if (!m.matches()) {
            return false;
        }
        int numbers = m.group(3) == null ? 1 : m.group(4) == null ? 2 : 3;
        int a = Integer.parseInt(m.group(2));
        int b = numbers > 1 ? Integer.parseInt(m.group(3)) : 0;
        int c = numbers > 2 ? Integer.parseInt(m.group(4)) : 0;
        switch (m.group(1).charAt(0)) {
            case 'f': return numbers == 2 && makeOn(p, a, b) >= 0;
            case 'h': return numbers == 2 && setOn(p, a, b) >= 0;
            case 'w': return numbers == 3 && wideOn(p, a, b, c);
            default: return numbers == 1 && tabsOn(p, a);
        }
    }

    private static int makeOn(Page p, int a, int b) {
        if (a < 0 || b > p.size() || a >= b) {
            return BAD;
        }
        for (int q = a; q < b; q++) {
            if (p.signs.get(q).fold != null) {
                return NO;
            }
        }
        if (p.folds().size() == 4) {
            return FULL;
        }
        Fold f = new Fold();
        for (int q = a; q < b; q++) {
            p.signs.get(q).fold = f;
        }
        return p.folds().indexOf(f);
    }

    private static int setOn(Page p, int at, int n) {
        if (at < 0 || at > p.size() || n < 1 || n > 5) {
            return BAD;
        }
        if (p.signs.get(at).hint > 0) {
            return NO;
        }
        if (p.hints().size() == 4) {
            return FULL;
        }
        p.signs.get(at).hint = n;
        return p.hints().indexOf(at);
    }

    private static boolean wideOn(Page p, int mode, int w, int i) {
        if (mode < 0 || mode > 2 || w < 4 || w > 20 || i < 0 || i > 3) {
            return false;
        }
        p.mode = mode;
        p.w = w;
        p.i = i;
        return true;
    }

    private static boolean tabsOn(Page p, int t) {
        if (t < 1 || t > 8) {
            return false;
        }
        p.t = t;
        return true;
    }

    /** What is before an act; the page is a copy of it from now on. */
    private void act() {
        undos.add(page);
        if (undos.size() > 8) {
            undos.remove(0);
        }
        page = page.copy();
    }

    private int acted(int answer) {
        former = grid;
        grid = page.grid();
        return answer;
    }

    int write(int letter) {
        if (letter < 32 || letter > 126) {
            return BAD;
        }
        if (text.length() == 200) {
            return FULL;
        }
        return text.append((char) letter).length();
    }

    int wipe() {
        int was = text.length();
        text = new StringBuilder();
        return was;
    }

    int fault() {
        read(text.toString());
        return faultAt;
    }

    int lay() {
        Page p = read(text.toString());
        if (faultAt != NONE) {
            return NO;
        }
        keeps.clear();
        anew(p);
        return page.size();
    }

    private void anew(Page p) {
        page = p;
        grid = page.grid();
        former = null;
        undos.clear();
    }

    private boolean noPlace(int at) {
        return at < 0 || at > page.size();
    }

    private boolean noFold(int f) {
        return f < 0 || f >= page.folds().size();
    }

    private boolean noHint(int h) {
        return h < 0 || h >= page.hints().size();
    }

    int sign(int at) {
        return noPlace(at) ? BAD : page.signs.get(at).code;
    }

    int fold(int f, int what) {
        if (noFold(f) || what < 0 || what > 2) {
            return BAD;
        }
        Fold x = page.folds().get(f);
        return what == 0 ? page.first(x) : what == 1 ? page.behind(x) : x.shut ? 1 : 0;
    }

    int hint(int h, int what) {
        if (noHint(h) || what < 0 || what > 2) {
            return BAD;
        }
        int p = page.hints().get(h);
        return what == 0 ? p : what == 1 ? page.signs.get(p).hint : page.shown(p) ? 1 : 0;
    }

    int insert(int at, int sign) {
        if (noPlace(at) || sign < 0 || sign > 27) {
            return BAD;
        }
        if (page.size() == 40) {
            return FULL;
        }
        act();
        page.putIn(at, sign);
        return acted(page.size());
    }

    int erase(int at) {
        if (at < 0 || at >= page.size()) {
            return BAD;
        }
        act();
        int was = page.signs.get(at).code;
        page.takeOut(at);
        return acted(was);
    }

    int toggle(int f) {
        if (noFold(f)) {
            return BAD;
        }
        act();
        Fold x = page.folds().get(f);
        x.shut = !x.shut;
        return acted(x.shut ? 1 : 0);
    }

    int make(int a, int b) {
        int tried = makeOn(page.copy(), a, b);
        if (tried < 0) {
            return tried;
        }
        act();
        return acted(makeOn(page, a, b));
    }

    int unfold(int f) {
        if (noFold(f)) {
            return BAD;
        }
        act();
        Fold x = page.folds().get(f);
        for (Sign s : page.signs) {
            if (s.fold == x) {
                s.fold = null;
            }
        }
        return acted(page.folds().size());
    }

    int set(int at, int n) {
        int tried = setOn(page.copy(), at, n);
        if (tried < 0) {
            return tried;
        }
        act();
        return acted(setOn(page, at, n));
    }

    int unset(int h) {
        if (noHint(h)) {
            return BAD;
        }
        act();
        Sign s = page.signs.get(page.hints().get(h));
        int was = s.hint;
        s.hint = 0;
        return acted(was);
    }

    int wide(int mode, int w, int i) {
        if (!wideOn(page.copy(), mode, w, i)) {
            return BAD;
        }
        if (page.mode == mode && page.w == w && page.i == i) {
            return NO;
        }
        act();
        wideOn(page, mode, w, i);
        return acted(1);
    }

    int tabs(int t) {
        if (!tabsOn(page.copy(), t)) {
            return BAD;
        }
        if (page.t == t) {
            return NO;
        }
        int was = page.t;
        act();
        page.t = t;
        return acted(was);
    }

    int undo() {
        if (undos.isEmpty()) {
            return NO;
        }
        page = undos.remove(undos.size() - 1);
        return acted(undos.size());
    }

    int stands(int at, int what) {
        if (noPlace(at) || what < 0 || what > 2) {
            return BAD;
        }
        if (what == 2) {
            return page.shown(at) ? 1 : 0;
        }
        if (at == page.size()) {
            return what == 0 ? grid.rows() - 1 : grid.lowest().end;
        }
        Piece p = grid.of(at);
        return what == 0 ? p.row : p.column;
    }

    private boolean offScreen(int row, int column) {
        return row < 0 || row >= grid.rows() || column < 0 || column > 99;
    }

    int place(int row, int column) {
        return offScreen(row, column) ? BAD : grid.at(row, column);
    }

    int screen(int row, int column) {
        return offScreen(row, column) ? BAD : grid.code(row, column);
    }

    int go(int at, int way) {
        if (noPlace(at) || way < 0 || way > 3) {
            return BAD;
        }
        if (way < 2) {
            int step = way == 0 ? 1 : -1;
            int p = at + step;
            while (p >= 0 && p <= page.size() && !page.shown(p)) {
                p += step;
            }
            return noPlace(p) ? NONE : p;
        }
        int row = stands(at, 0) + (way == 2 ? -1 : 1);
        return row < 0 || row >= grid.rows() ? NONE : grid.at(row, stands(at, 1));
    }

    int row(int row, int what) {
        if (row < 0 || row >= grid.rows() || what < 0 || what > 1) {
            return BAD;
        }
        return what == 0 ? grid.lines.get(row).end : grid.lines.get(row).first ? 1 : 0;
    }

    int changed(int what) {
        if (what < 0 || what > 1) {
            return BAD;
        }
        int first = NONE;
        int many = 0;
        for (int r = 0; former != null && r < Math.max(grid.rows(), former.rows()); r++) {
            boolean both = r < grid.rows() && r < former.rows();
            if (!both || !grid.lines.get(r).look().equals(former.lines.get(r).look())) {
                first = many == 0 ? r : first;
                many++;
            }
        }
        return what == 0 ? first : many;
    }

    int fit(int k) {
        if (k < 1 || k > 40) {
            return BAD;
        }
        for (int w = 4; w <= 20; w++) {
            Page p = page.copy();
            p.w = w;
            if (p.grid().rows() <= k) {
                return w;
            }
        }
        return NONE;
    }

    int saves(int what) {
        if (what < 0 || what > 1) {
            return BAD;
        }
        int which = NONE;
        int fewest = NONE;
        for (int f = page.folds().size() - 1; f >= 0; f--) {
            Page p = page.copy();
            if (!p.folds().get(f).shut) {
                p.folds().get(f).shut = true;
                int rows = p.grid().rows();
                if (which == NONE || rows <= fewest) {
                    which = f;
                    fewest = rows;
                }
            }
        }
        return what == 0 ? which : fewest;
    }

    int tight(int k) {
        if (k < -1) {
            return BAD;
        }
        List<Integer> all = new ArrayList<>();
        for (int p = 0; p <= page.size() && page.size() < 40; p++) {
            Page q = page.copy();
            q.putIn(p, 25);
            if (q.grid().rows() > grid.rows()) {
                all.add(p);
            }
        }
        return k == -1 ? all.size() : k < all.size() ? all.get(k) : NONE;
    }

    int day(int z, int n, int what) {
        if (z < 0 || z > 9999 || n < 1 || n > 40 || what < 0 || what > 2) {
            return BAD;
        }
        Page p = page.copy();
        for (int k = 0; k < n; k++) {
            long x = (7919L * z + 6151L * k + 1) % 65521;
            int draw = (int) (x * x % 65521);
            int high = draw >> 8;
            int low = draw >> 3;
            if ((draw & 3) < 2 && p.size() < 40) {
                p.putIn(high % p.signs.size(), low % 28);
            } else if ((draw & 3) == 2 && p.size() > 0) {
                p.takeOut(high % p.size());
            } else if ((draw & 3) == 3 && !p.folds().isEmpty()) {
                Fold f = p.folds().get(low % p.folds().size());
                f.shut = !f.shut;
            }
        }
        return what == 0 ? p.size() : what == 1 ? p.grid().rows() : p.grid().columns();
    }

    int keep() {
        if (keeps.size() == 2) {
            return FULL;
        }
        keeps.add(page.copy());
        return keeps.size();
    }

    int back() {
        if (keeps.isEmpty()) {
            return NO;
        }
        anew(keeps.remove(keeps.size() - 1));
        return keeps.size();
    }

    int count(int what) {
        switch (what) {
            case 0: return page.size();
            case 1: return page.folds().size();
            case 2: return page.hints().size();
            case 3: return grid.rows();
            case 4: return grid.columns();
            case 5: return page.mode;
            case 6: return page.w;
            case 7: return page.i;
            case 8: return page.t;
            case 9: return undos.size();
            case 10: return keeps.size();
            case 11: return text.length();
            default: return BAD;
        }
    }
}
