/** Where the places of a text stand on a screen, with folds, hints, tabs and lines that go on below. */
public final class DisplayMap {
    public static final int BAD = -1, NO = -2, FULL = -3, NONE = -4;

    private static final int MOST_SIGNS = 40;
    private static final int MOST_FOLDS = 4;
    private static final int MOST_HINTS = 4;
    private static final int MOST_LETTERS = 200;
    private static final int MOST_UNDONE = 8;
    private static final int MOST_KEPT = 2;
    private static final int MOST_ITEMS = MOST_SIGNS + MOST_HINTS;
    /** Every item opens one row at most, beside the first row. */
    private static final int MOST_ROWS = MOST_ITEMS + 1;

    private static final int TAB = 26;
    private static final int END = 27;
    private static final int FOLD_SIGN = 28;
    private static final int HINT = 29;

    private static final int BY_COLUMNS = 1;
    private static final int BY_WORDS = 2;
    private static final int LEAST_WIDE = 4;
    private static final int MOST_WIDE = 20;

    private static final String FIRST_TEXT =
        "tab>cdefghij/klm>no/pqrstuvwxyz;f6,9;f18,21;h3,2;h11,4;w2,7,1;b3;";

    private final Text text = new Text();
    private final Sheet sheet = new Sheet();
    private final Pile undos = new Pile(MOST_UNDONE);
    private final Pile keeps = new Pile(MOST_KEPT);
    private Screen shown = new Screen();
    /** What stood ahead of the latest act; told only while acted is true. */
    private Screen former = new Screen();
    private boolean acted;

    /** For what would be: the sheet and the screen stay as they are meanwhile. */
    private final Sheet trial = new Sheet();
    private final Screen trialScreen = new Screen();

    public DisplayMap() {
        for (int i = 0; i < FIRST_TEXT.length(); i++) {
            text.append(FIRST_TEXT.charAt(i));
        }
        text.readInto(sheet);
        text.length = 0;
        shown.draw(sheet);
    }

    // ---- texts

    public int write(int letter) {
        if (letter < 32 || letter > 126) {
            return BAD;
        }
        return text.append(letter) ? text.length : FULL;
    }

    public int wipe() {
        int was = text.length;
        text.length = 0;
        return was;
    }

    public int fault() {
        return text.readInto(trial);
    }

    public int lay() {
        if (text.readInto(trial) != NONE) {
            return NO;
        }
        keeps.count = 0;
        startAnew(trial);
        return sheet.signCount;
    }

    public int sign(int at) {
        if (!sheet.hasPlace(at)) {
            return BAD;
        }
        return sheet.signAt(at);
    }

    public int fold(int f, int what) {
        if (!sheet.hasFold(f)) {
            return BAD;
        }
        switch (what) {
            case 0: return sheet.foldFrom[f];
            case 1: return sheet.foldTo[f];
            case 2: return sheet.foldShut[f] ? 1 : 0;
            default: return BAD;
        }
    }

    public int hint(int h, int what) {
        if (!sheet.hasHint(h)) {
            return BAD;
        }
        switch (what) {
            case 0: return sheet.hintPlace[h];
            case 1: return sheet.hintWide[h];
            case 2: return sheet.isShown(sheet.hintPlace[h]) ? 1 : 0;
            default: return BAD;
        }
    }

    // ---- acts

    public int insert(int at, int sign) {
        if (!sheet.hasPlace(at) || sign < 0 || sign > END) {
            return BAD;
        }
        if (!sheet.hasRoom()) {
            return FULL;
        }
        undos.push(sheet);
        sheet.putIn(at, sign);
        redraw();
        return sheet.signCount;
    }

    public int erase(int at) {
        if (!sheet.hasSign(at)) {
            return BAD;
        }
        int was = sheet.signAt(at);
        undos.push(sheet);
        sheet.takeOut(at);
        redraw();
        return was;
    }

    public int toggle(int f) {
        if (!sheet.hasFold(f)) {
            return BAD;
        }
        undos.push(sheet);
        sheet.turn(f);
        redraw();
        return sheet.foldShut[f] ? 1 : 0;
    }

    public int make(int a, int b) {
        int refusal = sheet.foldRefusal(a, b);
        if (refusal != 0) {
            return refusal;
        }
        undos.push(sheet);
        int number = sheet.addFold(a, b);
        redraw();
        return number;
    }

    public int unfold(int f) {
        if (!sheet.hasFold(f)) {
            return BAD;
        }
        undos.push(sheet);
        sheet.dropFold(f);
        redraw();
        return sheet.foldCount;
    }

    public int set(int at, int n) {
        int refusal = sheet.hintRefusal(at, n);
        if (refusal != 0) {
            return refusal;
        }
        undos.push(sheet);
        int number = sheet.addHint(at, n);
        redraw();
        return number;
    }

    public int unset(int h) {
        if (!sheet.hasHint(h)) {
            return BAD;
        }
        int was = sheet.hintWide[h];
        undos.push(sheet);
        sheet.dropHint(h);
        redraw();
        return was;
    }

    public int wide(int mode, int w, int i) {
        if (!Sheet.isFlow(mode, w, i)) {
            return BAD;
        }
        if (sheet.mode == mode && sheet.width == w && sheet.indent == i) {
            return NO;
        }
        undos.push(sheet);
        sheet.setFlow(mode, w, i);
        redraw();
        return 1;
    }

    public int tabs(int t) {
        if (!Sheet.isTabStep(t)) {
            return BAD;
        }
        if (sheet.tabStep == t) {
            return NO;
        }
        int was = sheet.tabStep;
        undos.push(sheet);
        sheet.tabStep = t;
        redraw();
        return was;
    }

    public int undo() {
        if (!undos.popInto(sheet)) {
            return NO;
        }
        redraw();
        return undos.count;
    }

    // ---- the screen

    public int stands(int at, int what) {
        if (!sheet.hasPlace(at)) {
            return BAD;
        }
        switch (what) {
            case 0: return rowOf(at);
            case 1: return columnOf(at);
            case 2: return sheet.isShown(at) ? 1 : 0;
            default: return BAD;
        }
    }

    public int place(int row, int column) {
        if (!shown.hasRow(row) || !isColumn(column)) {
            return BAD;
        }
        return shown.placeAt(row, column, sheet.signCount);
    }

    public int screen(int row, int column) {
        if (!shown.hasRow(row) || !isColumn(column)) {
            return BAD;
        }
        return shown.codeAt(row, column);
    }

    public int go(int at, int way) {
        if (!sheet.hasPlace(at)) {
            return BAD;
        }
        switch (way) {
            case 0: return sheet.nextShown(at);
            case 1: return sheet.previousShown(at);
            case 2: return acrossTo(rowOf(at) - 1, columnOf(at));
            case 3: return acrossTo(rowOf(at) + 1, columnOf(at));
            default: return BAD;
        }
    }

    public int row(int row, int what) {
        if (!shown.hasRow(row)) {
            return BAD;
        }
        switch (what) {
            case 0: return shown.rowEnds[row];
            case 1: return shown.lineStarts[row] ? 1 : 0;
            default: return BAD;
        }
    }

    public int changed(int what) {
        switch (what) {
            case 0: return firstChanged();
            case 1: return countChanged();
            default: return BAD;
        }
    }

    // ---- what would be

    public int fit(int k) {
        if (k < 1 || k > 40) {
            return BAD;
        }
        trial.copyFrom(sheet);
        for (int w = LEAST_WIDE; w <= MOST_WIDE; w++) {
            trial.width = w;
            if (trialScreen.draw(trial) <= k) {
                return w;
            }
        }
        return NONE;
    }

    public int saves(int what) {
        if (what != 0 && what != 1) {
            return BAD;
        }
        int best = NONE;
        int fewest = NONE;
        for (int f = 0; f < sheet.foldCount; f++) {
            if (sheet.foldShut[f]) {
                continue;
            }
            trial.copyFrom(sheet);
            trial.turn(f);
            int rows = trialScreen.draw(trial);
            if (best == NONE || rows < fewest) {
                best = f;
                fewest = rows;
            }
        }
        return what == 0 ? best : fewest;
    }

    public int tight(int k) {
        if (k < -1) {
            return BAD;
        }
        int found = 0;
        for (int at = 0; at <= sheet.signCount; at++) {
            if (!isTight(at)) {
                continue;
            }
            if (found == k) {
                return at;
            }
            found++;
        }
        return k == -1 ? found : NONE;
    }

    public int day(int z, int n, int what) {
        if (z < 0 || z > 9999 || n < 1 || n > 40) {
            return BAD;
        }
        if (what < 0 || what > 2) {
            return BAD;
        }
        trial.copyFrom(sheet);
        for (int k = 0; k < n; k++) {
            trial.live(draw(z, k));
        }
        int rows = trialScreen.draw(trial);
        switch (what) {
            case 0: return trial.signCount;
            case 1: return rows;
            default: return trialScreen.longestRow();
        }
    }

    public int keep() {
        if (keeps.isFull()) {
            return FULL;
        }
        keeps.push(sheet);
        return keeps.count;
    }

    public int back() {
        if (!keeps.popInto(trial)) {
            return NO;
        }
        startAnew(trial);
        return keeps.count;
    }

    public int count(int what) {
        switch (what) {
            case 0: return sheet.signCount;
            case 1: return sheet.foldCount;
            case 2: return sheet.hintCount;
            case 3: return shown.rowCount;
            case 4: return shown.longestRow();
            case 5: return sheet.mode;
            case 6: return sheet.width;
            case 7: return sheet.indent;
            case 8: return sheet.tabStep;
            case 9: return undos.count;
            case 10: return keeps.count;
            case 11: return text.length;
            default: return BAD;
        }
    }

    private static boolean isColumn(int column) {
        return column >= 0 && column <= 99;
    }

    private static int draw(int z, int k) {
        long x = 7919L * z + 6151L * k + 1L;
        return (int) ((x * x) % 65521L);
    }

    /** The sheet becomes another one that has no past. */
    private void startAnew(Sheet other) {
        sheet.copyFrom(other);
        undos.count = 0;
        acted = false;
        shown.draw(sheet);
    }

    private void redraw() {
        Screen spare = former;
        former = shown;
        shown = spare;
        shown.draw(sheet);
        acted = true;
    }

    private int rowOf(int at) {
        int item = shown.itemOf(sheet.holderOf(at));
        return item < 0 ? shown.rowCount - 1 : shown.rows[item];
    }

    private int columnOf(int at) {
        int item = shown.itemOf(sheet.holderOf(at));
        return item < 0 ? shown.lastColumn : shown.columns[item];
    }

    /** Unlike place, this takes any column: rows that never go on below may reach beyond 99. */
    private int acrossTo(int row, int column) {
        return shown.hasRow(row) ? shown.placeAt(row, column, sheet.signCount) : NONE;
    }

    private int rowsToCompare() {
        return acted ? Math.max(shown.rowCount, former.rowCount) : 0;
    }

    private int firstChanged() {
        int rows = rowsToCompare();
        for (int r = 0; r < rows; r++) {
            if (!shown.isRowAsIn(former, r)) {
                return r;
            }
        }
        return NONE;
    }

    private int countChanged() {
        int rows = rowsToCompare();
        int found = 0;
        for (int r = 0; r < rows; r++) {
            if (!shown.isRowAsIn(former, r)) {
                found++;
            }
        }
        return found;
    }

    private boolean isTight(int at) {
        if (!sheet.hasRoom()) {
            return false;
        }
        trial.copyFrom(sheet);
        trial.putIn(at, 0);
        return trialScreen.draw(trial) > shown.rowCount;
    }

    /** The letters of THE TEXT, and how they are read. */
    private static final class Text {
        private final int[] letters = new int[MOST_LETTERS];
        private int length;
        /** The numbers of the item that was read last. */
        private final int[] numbers = new int[3];

        private boolean append(int letter) {
            if (length < 0 || length >= letters.length) {
                return false;
            }
            letters[length] = letter;
            length++;
            return true;
        }

        /** Answers the place of the first fault, or NONE: then the sheet is as the text tells. */
        private int readInto(Sheet s) {
            s.clear();
            int start = 0;
            for (int items = 0; items < MOST_LETTERS && start < length; items++) {
                int end = endOfItem(start);
                if (end < 0 || !readItem(start, end, s)) {
                    return start;
                }
                start = end + 1;
            }
            return NONE;
        }

        private int endOfItem(int start) {
            for (int p = start; p < length; p++) {
                if (letters[p] == ';') {
                    return p;
                }
            }
            return -1;
        }

        private boolean readItem(int start, int end, Sheet s) {
            int kind = letters[start];
            if (kind == 't') {
                return start == 0 && readSigns(start + 1, end, s);
            }
            int count = readNumbers(start + 1, end);
            switch (kind) {
                case 'f': return count == 2 && readFold(s);
                case 'h': return count == 2 && readHint(s);
                case 'w': return count == 3 && readFlow(s);
                case 'b': return count == 1 && readTabStep(s);
                default: return false;
            }
        }

        private boolean readSigns(int from, int to, Sheet s) {
            for (int p = from; p < to; p++) {
                int sign = signOf(letters[p]);
                if (sign < 0 || !s.hasRoom()) {
                    return false;
                }
                s.putIn(s.signCount, sign);
            }
            return true;
        }

        private static int signOf(int letter) {
            if (letter >= 'a' && letter <= 'z') {
                return letter - 'a';
            }
            if (letter == '>') {
                return TAB;
            }
            return letter == '/' ? END : -1;
        }

        /** How many numbers there are, or -1 if something else stands there. */
        private int readNumbers(int from, int to) {
            int count = 0;
            int figures = 0;
            int value = 0;
            for (int p = from; p <= to; p++) {
                // the end of the item closes a number as a comma does
                int c = p < to ? letters[p] : ',';
                if (c == ',') {
                    if (figures == 0 || count >= numbers.length) {
                        return -1;
                    }
                    numbers[count] = value;
                    count++;
                    figures = 0;
                    value = 0;
                } else if (c >= '0' && c <= '9' && figures < 2) {
                    value = value * 10 + (c - '0');
                    figures++;
                } else {
                    return -1;
                }
            }
            return count;
        }

        private boolean readFold(Sheet s) {
            if (s.foldRefusal(numbers[0], numbers[1]) != 0) {
                return false;
            }
            s.addFold(numbers[0], numbers[1]);
            return true;
        }

        private boolean readHint(Sheet s) {
            if (s.hintRefusal(numbers[0], numbers[1]) != 0) {
                return false;
            }
            s.addHint(numbers[0], numbers[1]);
            return true;
        }

        private boolean readFlow(Sheet s) {
            if (!Sheet.isFlow(numbers[0], numbers[1], numbers[2])) {
                return false;
            }
            s.setFlow(numbers[0], numbers[1], numbers[2]);
            return true;
        }

        private boolean readTabStep(Sheet s) {
            if (!Sheet.isTabStep(numbers[0])) {
                return false;
            }
            s.tabStep = numbers[0];
            return true;
        }
    }

    /** Signs, folds, hints and how wide: all that an act changes. Folds and hints lie in order. */
    private static final class Sheet {
        private final int[] signs = new int[MOST_SIGNS];
        private int signCount;
        private final int[] foldFrom = new int[MOST_FOLDS];
        private final int[] foldTo = new int[MOST_FOLDS];
        private final boolean[] foldShut = new boolean[MOST_FOLDS];
        private int foldCount;
        private final int[] hintPlace = new int[MOST_HINTS];
        private final int[] hintWide = new int[MOST_HINTS];
        private int hintCount;
        private int mode;
        private int width;
        private int indent;
        private int tabStep;

        private void clear() {
            signCount = 0;
            foldCount = 0;
            hintCount = 0;
            setFlow(BY_COLUMNS, 8, 0);
            tabStep = 4;
        }

        private void copyFrom(Sheet s) {
            System.arraycopy(s.signs, 0, signs, 0, MOST_SIGNS);
            signCount = s.signCount;
            for (int f = 0; f < MOST_FOLDS; f++) {
                foldFrom[f] = s.foldFrom[f];
                foldTo[f] = s.foldTo[f];
                foldShut[f] = s.foldShut[f];
            }
            foldCount = s.foldCount;
            System.arraycopy(s.hintPlace, 0, hintPlace, 0, MOST_HINTS);
            System.arraycopy(s.hintWide, 0, hintWide, 0, MOST_HINTS);
            hintCount = s.hintCount;
            setFlow(s.mode, s.width, s.indent);
            tabStep = s.tabStep;
        }

        private static boolean isFlow(int mode, int width, int indent) {
            return mode >= 0 && mode <= BY_WORDS
                && width >= LEAST_WIDE && width <= MOST_WIDE
                && indent >= 0 && indent <= 3;
        }

        private void setFlow(int newMode, int newWidth, int newIndent) {
            mode = newMode;
            width = newWidth;
            indent = newIndent;
        }

        private static boolean isTabStep(int t) {
            return t >= 1 && t <= 8;
        }

        private boolean hasPlace(int at) {
            return at >= 0 && at <= signCount;
        }

        private boolean hasSign(int at) {
            return at >= 0 && at < signCount;
        }

        private boolean hasFold(int f) {
            return f >= 0 && f < foldCount;
        }

        private boolean hasHint(int h) {
            return h >= 0 && h < hintCount;
        }

        private boolean hasRoom() {
            return signCount < MOST_SIGNS;
        }

        private int signAt(int at) {
            return hasSign(at) ? signs[at] : NONE;
        }

        private void putIn(int at, int sign) {
            if (!hasPlace(at) || !hasRoom()) {
                return;
            }
            for (int p = signCount; p > at; p--) {
                signs[p] = signs[p - 1];
            }
            signs[at] = sign;
            signCount++;
            for (int f = 0; f < foldCount; f++) {
                if (foldFrom[f] >= at) {
                    foldFrom[f]++;
                }
                if (foldTo[f] > at) {
                    foldTo[f]++;
                }
            }
            for (int h = 0; h < hintCount; h++) {
                if (hintPlace[h] >= at) {
                    hintPlace[h]++;
                }
            }
        }

        private void takeOut(int at) {
            if (!hasSign(at)) {
                return;
            }
            for (int p = at + 1; p < signCount; p++) {
                signs[p - 1] = signs[p];
            }
            signCount--;
            pullFolds(at);
            pullHints(at);
        }

        private void pullFolds(int at) {
            // from the last one on, for one that goes moves those behind it
            for (int f = foldCount - 1; f >= 0; f--) {
                if (foldFrom[f] > at) {
                    foldFrom[f]--;
                }
                if (foldTo[f] > at) {
                    foldTo[f]--;
                }
                if (foldFrom[f] >= foldTo[f]) {
                    dropFold(f);
                }
            }
        }

        private void pullHints(int at) {
            // a hint left at this place stands ahead of the next sign by itself
            if (hintAt(at + 1) >= 0) {
                dropHint(hintAt(at));
            }
            for (int h = 0; h < hintCount; h++) {
                if (hintPlace[h] > at) {
                    hintPlace[h]--;
                }
            }
        }

        private int foldRefusal(int a, int b) {
            if (!hasPlace(a) || !hasPlace(b) || a >= b) {
                return BAD;
            }
            for (int f = 0; f < foldCount; f++) {
                if (a < foldTo[f] && foldFrom[f] < b) {
                    return NO;
                }
            }
            return foldCount < MOST_FOLDS ? 0 : FULL;
        }

        private int addFold(int a, int b) {
            if (foldCount >= MOST_FOLDS) {
                return FULL;
            }
            int f = foldCount;
            for (; f > 0 && foldFrom[f - 1] > a; f--) {
                foldFrom[f] = foldFrom[f - 1];
                foldTo[f] = foldTo[f - 1];
                foldShut[f] = foldShut[f - 1];
            }
            foldFrom[f] = a;
            foldTo[f] = b;
            foldShut[f] = true;
            foldCount++;
            return f;
        }

        private void dropFold(int f) {
            if (!hasFold(f)) {
                return;
            }
            for (int g = f + 1; g < foldCount; g++) {
                foldFrom[g - 1] = foldFrom[g];
                foldTo[g - 1] = foldTo[g];
                foldShut[g - 1] = foldShut[g];
            }
            foldCount--;
        }

        private void turn(int f) {
            if (hasFold(f)) {
                foldShut[f] = !foldShut[f];
            }
        }

        private int hintRefusal(int at, int n) {
            if (!hasPlace(at) || n < 1 || n > 5) {
                return BAD;
            }
            if (hintAt(at) >= 0) {
                return NO;
            }
            return hintCount < MOST_HINTS ? 0 : FULL;
        }

        private int addHint(int at, int n) {
            if (hintCount >= MOST_HINTS) {
                return FULL;
            }
            int h = hintCount;
            for (; h > 0 && hintPlace[h - 1] > at; h--) {
                hintPlace[h] = hintPlace[h - 1];
                hintWide[h] = hintWide[h - 1];
            }
            hintPlace[h] = at;
            hintWide[h] = n;
            hintCount++;
            return h;
        }

        private void dropHint(int h) {
            if (!hasHint(h)) {
                return;
            }
            for (int g = h + 1; g < hintCount; g++) {
                hintPlace[g - 1] = hintPlace[g];
                hintWide[g - 1] = hintWide[g];
            }
            hintCount--;
        }

        /** The number of the hint ahead of a place, or -1. */
        private int hintAt(int at) {
            for (int h = 0; h < hintCount; h++) {
                if (hintPlace[h] == at) {
                    return h;
                }
            }
            return -1;
        }

        /** The number of the shut fold that has a place, or -1. */
        private int shutFoldOf(int at) {
            for (int f = 0; f < foldCount; f++) {
                if (foldShut[f] && foldFrom[f] <= at && at < foldTo[f]) {
                    return f;
                }
            }
            return -1;
        }

        /** The place whose sign, or fold sign, stands for this place. */
        private int holderOf(int at) {
            int f = shutFoldOf(at);
            return f < 0 ? at : foldFrom[f];
        }

        private boolean isShown(int at) {
            return holderOf(at) == at;
        }

        private int nextShown(int at) {
            for (int p = at + 1; p <= signCount; p++) {
                if (isShown(p)) {
                    return p;
                }
            }
            return NONE;
        }

        private int previousShown(int at) {
            for (int p = at - 1; p >= 0; p--) {
                if (isShown(p)) {
                    return p;
                }
            }
            return NONE;
        }

        /** A number modulo as many as there are, or -1, which is no place and no fold, if there are none. */
        private static int reduced(int n, int many) {
            return many > 0 ? n % many : -1;
        }

        /** What a draw of a day does: nothing, if there is no room, no sign or no fold. */
        private void live(int draw) {
            int kind = draw % 4;
            if (kind == 2) {
                takeOut(reduced(draw / 256, signCount));
            } else if (kind == 3) {
                turn(reduced(draw / 8, foldCount));
            } else {
                putIn(reduced(draw / 256, signCount + 1), draw / 8 % 28);
            }
        }
    }

    /** Sheets one upon the other; the lowest goes when one more is put on a full pile. */
    private static final class Pile {
        private final Sheet[] sheets;
        private int count;

        private Pile(int most) {
            sheets = new Sheet[Math.max(0, most)];
            for (int i = 0; i < sheets.length; i++) {
                sheets[i] = new Sheet();
            }
        }

        private boolean isFull() {
            return count >= sheets.length;
        }

        private void push(Sheet s) {
            if (isFull()) {
                dropLowest();
            }
            if (count >= 0 && count < sheets.length) {
                sheets[count].copyFrom(s);
                count++;
            }
        }

        private void dropLowest() {
            if (count < 1 || count > sheets.length) {
                return;
            }
            Sheet lowest = sheets[0];
            for (int i = 1; i < count; i++) {
                sheets[i - 1] = sheets[i];
            }
            // it is written over when the next one is put on
            sheets[count - 1] = lowest;
            count--;
        }

        private boolean popInto(Sheet s) {
            if (count < 1 || count > sheets.length) {
                return false;
            }
            count--;
            s.copyFrom(sheets[count]);
            return true;
        }
    }

    /** What stands in the rows: items from the beginning on, each with its row, column and width. */
    private static final class Screen {
        private final int[] codes = new int[MOST_ITEMS];
        private final int[] places = new int[MOST_ITEMS];
        private final int[] rows = new int[MOST_ITEMS];
        private final int[] columns = new int[MOST_ITEMS];
        private final int[] widths = new int[MOST_ITEMS];
        private int itemCount;
        private final int[] rowEnds = new int[MOST_ROWS];
        private final boolean[] lineStarts = new boolean[MOST_ROWS];
        private int rowCount;
        /** Where the last place stands, in the last row. */
        private int lastColumn;

        /** Answers how many rows there are. */
        private int draw(Sheet s) {
            gather(s);
            flow(s);
            return rowCount;
        }

        private void gather(Sheet s) {
            itemCount = 0;
            for (int p = 0; p <= s.signCount; p++) {
                if (!s.isShown(p)) {
                    continue;
                }
                int h = s.hintAt(p);
                if (h >= 0) {
                    addItem(HINT, p, s.hintWide[h]);
                }
                if (p < s.signCount) {
                    addItem(s.shutFoldOf(p) < 0 ? s.signAt(p) : FOLD_SIGN, p, 1);
                }
            }
        }

        private void addItem(int code, int at, int width) {
            if (itemCount < 0 || itemCount >= MOST_ITEMS) {
                return;
            }
            codes[itemCount] = code;
            places[itemCount] = at;
            widths[itemCount] = width;
            itemCount++;
        }

        private void flow(Sheet s) {
            rowCount = 0;
            openRow(true);
            boolean filled = false;
            for (int i = 0; i < itemCount; i++) {
                if (filled && goesOn(s, i)) {
                    openRow(false);
                    lastColumn = s.indent;
                }
                widths[i] = widthOf(s, i);
                rows[i] = rowCount - 1;
                columns[i] = lastColumn;
                lastColumn += widths[i];
                closeRow();
                filled = codes[i] != END;
                if (!filled) {
                    openRow(true);
                }
            }
        }

        private void openRow(boolean startsLine) {
            if (rowCount < 0 || rowCount >= MOST_ROWS) {
                return;
            }
            lineStarts[rowCount] = startsLine;
            rowEnds[rowCount] = 0;
            rowCount++;
            lastColumn = 0;
        }

        private void closeRow() {
            if (rowCount >= 1 && rowCount <= MOST_ROWS) {
                rowEnds[rowCount - 1] = lastColumn;
            }
        }

        private boolean goesOn(Sheet s, int i) {
            if (s.mode != BY_COLUMNS && s.mode != BY_WORDS || codes[i] == END) {
                return false;
            }
            if (lastColumn + widthOf(s, i) > s.width) {
                return true;
            }
            if (s.mode != BY_WORDS || !startsWord(i)) {
                return false;
            }
            int word = wordWidth(i);
            return lastColumn + word > s.width && word <= s.width - s.indent;
        }

        /** The width that an item has at the column where the row has come to. */
        private int widthOf(Sheet s, int i) {
            if (codes[i] == END) {
                return 0;
            }
            if (codes[i] != TAB) {
                return widths[i];
            }
            return s.tabStep < 1 ? 1 : s.tabStep - lastColumn % s.tabStep;
        }

        private boolean isOfWord(int i) {
            return codes[i] != TAB && codes[i] != END;
        }

        private boolean startsWord(int i) {
            return isOfWord(i) && (i == 0 || !isOfWord(i - 1));
        }

        private int wordWidth(int first) {
            int sum = 0;
            for (int i = first; i < itemCount && isOfWord(i); i++) {
                sum += widths[i];
            }
            return sum;
        }

        private boolean hasRow(int r) {
            return r >= 0 && r < rowCount;
        }

        private int longestRow() {
            int longest = 0;
            for (int r = 0; r < rowCount; r++) {
                longest = Math.max(longest, rowEnds[r]);
            }
            return longest;
        }

        /** The number of the sign or fold sign of a place, or -1 (the last place has none). */
        private int itemOf(int at) {
            for (int i = 0; i < itemCount; i++) {
                if (places[i] == at && codes[i] != HINT) {
                    return i;
                }
            }
            return -1;
        }

        private int placeAt(int r, int column, int lastPlace) {
            int found = lastPlace;
            for (int i = 0; i < itemCount; i++) {
                if (rows[i] != r) {
                    continue;
                }
                found = places[i];
                // ahead of all in the row counts for the first there; behind an end is nothing more
                if (column < columns[i] + widths[i] || codes[i] == END) {
                    return found;
                }
            }
            return r == rowCount - 1 ? lastPlace : found;
        }

        private int codeAt(int r, int column) {
            for (int i = 0; i < itemCount; i++) {
                if (rows[i] == r && columns[i] <= column && column < columns[i] + widths[i]) {
                    return codes[i];
                }
            }
            return NONE;
        }

        private boolean isRowAsIn(Screen other, int r) {
            if (!hasRow(r) || !other.hasRow(r)) {
                return false;
            }
            int mine = seek(r, 0);
            int theirs = other.seek(r, 0);
            for (int n = 0; n < MOST_ITEMS && mine >= 0 && theirs >= 0; n++) {
                if (!isItemAsIn(other, mine, theirs)) {
                    return false;
                }
                mine = seek(r, mine + 1);
                theirs = other.seek(r, theirs + 1);
            }
            return mine < 0 && theirs < 0;
        }

        /** The next item of a row that is no end, or -1. */
        private int seek(int r, int from) {
            for (int i = from; i < itemCount; i++) {
                if (rows[i] == r && codes[i] != END) {
                    return i;
                }
            }
            return -1;
        }

        private boolean isItemAsIn(Screen other, int mine, int theirs) {
            return codes[mine] == other.codes[theirs]
                && columns[mine] == other.columns[theirs]
                && widths[mine] == other.widths[theirs];
        }
    }
}
