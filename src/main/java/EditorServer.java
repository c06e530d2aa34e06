/**
 * The server side of an editor's protocol, fed with four characters a call.
 *
 * Every row is made with the object and used again for each frame, so that a
 * long run of calls makes next to no objects.
 */
public final class EditorServer {
    private static final int NEW = 0;
    private static final int READY = 1;
    private static final int DOWN = 2;
    private static final int OUT = 3;
    private static final int CLOSED = 4;

    private static final int NO_VALUE = -32700;
    private static final int NO_MESSAGE = -32600;
    private static final int NOT_READY = -32002;
    private static final int NO_SUCH_METHOD = -32601;
    private static final int NO_SUCH_PARAMETERS = -32602;
    private static final int NO_SUCH_CHARACTER = -32603;
    private static final int CANCELLED = -32800;
    private static final int TOO_MANY_WAIT = -32803;

    private static final int LENGTH = 0;
    private static final int INDEX = 1;
    private static final int AT = 2;
    private static final int LINES = 3;

    private static final int NONE = -1;
    private static final char LINE_END = 10;

    private final Frame frame;
    private final Values values;
    private final Shelf shelf;
    private final Queue queue;
    private final Answers answers;
    private int phase;
    private int exitCode;
    private int bodies;
    private int ignoredCount;

    public EditorServer() {
        frame = new Frame();
        values = new Values(frame.body);
        shelf = new Shelf();
        queue = new Queue();
        answers = new Answers();
        phase = NEW;
        exitCode = NONE;
    }

    public int feed(int four) {
        for (int shift = 0; shift < 32; shift += 8) {
            int c = (four >>> shift) & 255;
            if (c >= 1 && c <= 127 && phase != OUT && phase != CLOSED) {
                frame.take((char) c);
                if (frame.broken) {
                    phase = CLOSED;
                } else if (frame.isWhole()) {
                    bodies++;
                    answerBody();
                    frame.begin();
                }
            }
        }
        return bodies;
    }

    public int state() {
        return phase;
    }

    public int code() {
        return exitCode;
    }

    public int waiting() {
        return queue.count;
    }

    public int request(int k) throws IndexOutOfBoundsException {
        if (k < 0 || k >= queue.count) {
            throw new IndexOutOfBoundsException();
        }
        return queue.rows[k].id;
    }

    public int run(int k) throws IndexOutOfBoundsException {
        if (k < 0 || k >= queue.count) {
            throw new IndexOutOfBoundsException();
        }
        Asked asked = queue.takeOut(k);
        int result = asked.workOut();
        if (result == NONE) {
            answers.addError(asked.id, NO_SUCH_CHARACTER);
        } else {
            answers.addResult(asked.id, result);
        }
        return asked.id;
    }

    public int responses() {
        return answers.count;
    }

    public int response(int k, int what) throws IndexOutOfBoundsException, IllegalArgumentException {
        if (k < 0 || k >= answers.count) {
            throw new IndexOutOfBoundsException();
        }
        switch (what) {
            case 0:
                return answers.ids[k];
            case 1:
                return answers.withId[k] ? 1 : 0;
            case 2:
                return answers.withResult[k] ? 1 : 0;
            case 3:
                return answers.contents[k];
            default:
                throw new IllegalArgumentException();
        }
    }

    public char written(int k, int i) throws IndexOutOfBoundsException {
        if (k < 0 || k >= answers.count) {
            throw new IndexOutOfBoundsException();
        }
        return answers.frameCharacter(k, i);
    }

    public int ignored() {
        return ignoredCount;
    }

    public int documents() {
        return shelf.count;
    }

    public int document(int d, int what) throws IndexOutOfBoundsException, IllegalArgumentException {
        if (d < 0 || d >= shelf.count) {
            throw new IndexOutOfBoundsException();
        }
        Document found = shelf.rows[d];
        switch (what) {
            case 0:
                return found.version;
            case 1:
                return found.content.size;
            case 2:
                return found.titleSize;
            case 3:
                return found.content.lineCount();
            default:
                throw new IllegalArgumentException();
        }
    }

    public char text(int d, int i) throws IndexOutOfBoundsException {
        if (d < 0 || d >= shelf.count || i < 0 || i >= shelf.rows[d].content.size) {
            throw new IndexOutOfBoundsException();
        }
        return shelf.rows[d].content.letters[i];
    }

    public char name(int d, int i) throws IndexOutOfBoundsException {
        if (d < 0 || d >= shelf.count || i < 0 || i >= shelf.rows[d].titleSize) {
            throw new IndexOutOfBoundsException();
        }
        return shelf.rows[d].title[i];
    }

    public int place(int d, int line, int units) throws IndexOutOfBoundsException {
        if (d < 0 || d >= shelf.count) {
            throw new IndexOutOfBoundsException();
        }
        return shelf.rows[d].content.placeOf(line, units);
    }

    private void answerBody() {
        if (!values.read(frame.announced)) {
            answers.addErrorWithoutId(NO_VALUE);
            return;
        }
        int id = values.member("id");
        int method = values.member("method");
        boolean identified = values.isNumber(id);
        if (values.isString(method) && identified) {
            answerRequest(values.numberOf(id), method);
        } else if (values.isString(method) && id == NONE) {
            takeNotification(method);
        } else if (identified) {
            answers.addError(values.numberOf(id), NO_MESSAGE);
        } else {
            answers.addErrorWithoutId(NO_MESSAGE);
        }
    }

    private void answerRequest(int id, int method) {
        if (phase == READY) {
            answerWhenReady(id, method);
        } else if (phase == DOWN) {
            answers.addError(id, NO_MESSAGE);
        } else if (values.spells(method, "initialize")) {
            phase = READY;
            answers.addResult(id, 0);
        } else {
            answers.addError(id, NOT_READY);
        }
    }

    private void answerWhenReady(int id, int method) {
        int kind = kindOf(method);
        if (kind != NONE) {
            ask(id, kind);
        } else if (values.spells(method, "shutdown")) {
            phase = DOWN;
            answers.addResult(id, 0);
        } else if (values.spells(method, "initialize")) {
            answers.addError(id, NO_MESSAGE);
        } else {
            answers.addError(id, NO_SUCH_METHOD);
        }
    }

    private int kindOf(int method) {
        if (values.spells(method, "length")) {
            return LENGTH;
        }
        if (values.spells(method, "index")) {
            return INDEX;
        }
        if (values.spells(method, "at")) {
            return AT;
        }
        return values.spells(method, "lines") ? LINES : NONE;
    }

    private void ask(int id, int kind) {
        int params = values.member("params");
        int d = fitsKind(params, kind) ? shelf.find(values, values.item(params, 0)) : NONE;
        if (d == NONE) {
            answers.addError(id, NO_SUCH_PARAMETERS);
        } else if (queue.isFull()) {
            answers.addError(id, TOO_MANY_WAIT);
        } else {
            Asked asked = queue.addRow();
            asked.id = id;
            asked.kind = kind;
            asked.content.copyFrom(shelf.rows[d].content);
            asked.keepDetails(values, params);
        }
    }

    private boolean fitsKind(int params, int kind) {
        switch (kind) {
            case INDEX:
                return values.hasShape(params, "ss") && values.sizeOf(values.item(params, 1)) == 1;
            case AT:
                return values.hasShape(params, "snn");
            default:
                return values.hasShape(params, "s");
        }
    }

    private void takeNotification(int method) {
        if (values.spells(method, "exit")) {
            exitCode = phase == DOWN ? 0 : 1;
            phase = OUT;
        } else if (phase == READY && !follow(method)) {
            ignoredCount++;
        }
    }

    /** Answers false if the notification is one to be ignored. */
    private boolean follow(int method) {
        int params = values.member("params");
        if (values.spells(method, "open")) {
            return shelf.open(values, params);
        }
        if (values.spells(method, "close")) {
            return shelf.close(values, params);
        }
        if (values.spells(method, "change")) {
            return shelf.change(values, params);
        }
        return values.spells(method, "cancel") && cancel(params);
    }

    private boolean cancel(int params) {
        int k = values.hasShape(params, "n") ? queue.find(values.numberAt(params, 0)) : NONE;
        if (k == NONE) {
            return false;
        }
        answers.addError(queue.takeOut(k).id, CANCELLED);
        return true;
    }

    private static boolean isDigit(char c) {
        return c >= '0' && c <= '9';
    }

    /** A header and a body, as far as their characters have come. */
    private static final class Frame {
        private static final int MAX_BODY = 200;
        private static final int MAX_DIGITS = 3;

        private final char[] body = new char[MAX_BODY];
        private boolean inBody;
        private boolean broken;
        private int digits;
        private int announced;
        private int filled;

        void begin() {
            inBody = false;
            digits = 0;
            announced = 0;
            filled = 0;
        }

        void take(char c) {
            if (inBody) {
                takeIntoBody(c);
            } else if (isDigit(c) && digits < MAX_DIGITS) {
                announced = announced * 10 + (c - '0');
                digits++;
            } else if (c == ':' && announced >= 1 && announced <= MAX_BODY) {
                inBody = true;
            } else {
                broken = true;
            }
        }

        private void takeIntoBody(char c) {
            if (filled < MAX_BODY) {
                body[filled] = c;
                filled++;
            }
        }

        boolean isWhole() {
            return inBody && filled >= announced;
        }
    }

    /**
     * The values of one body, each in front of its parts: the first part of
     * value v is v + 1, and the part behind part p is afters[p].
     */
    private static final class Values {
        private static final int MAX_VALUES = 40;
        private static final int MAX_DEPTH = 6;
        private static final int MAX_DIGITS = 6;

        private static final int WORD = 0;
        private static final int NUMBER = 1;
        private static final int STRING = 2;
        private static final int ARRAY = 3;
        private static final int OBJECT = 4;

        private final int[] kinds = new int[MAX_VALUES];
        private final int[] numbers = new int[MAX_VALUES];
        private final int[] starts = new int[MAX_VALUES];
        private final int[] sizes = new int[MAX_VALUES];
        private final int[] afters = new int[MAX_VALUES];
        private final int[] nameStarts = new int[MAX_VALUES];
        private final int[] nameSizes = new int[MAX_VALUES];
        // No string is longer than what it was written as, so a row as long as a body holds them all.
        private final char[] letters = new char[Frame.MAX_BODY];
        private final char[] source;
        private int sourceSize;
        private int at;
        private int count;
        private int lettersUsed;

        Values(char[] source) {
            this.source = source;
        }

        /** Answers false if the first characters of the source, so many, are no value. */
        boolean read(int size) {
            sourceSize = Math.min(size, source.length);
            at = 0;
            count = 0;
            lettersUsed = 0;
            return readValue(0) && at == sourceSize;
        }

        private boolean readValue(int depth) {
            skipBlanks();
            if (count >= MAX_VALUES || at >= sourceSize) {
                return false;
            }
            int v = count;
            count++;
            sizes[v] = 0;
            char first = source[at];
            boolean good;
            if (first == '"') {
                good = readString(v);
            } else if (first == '[') {
                kinds[v] = ARRAY;
                good = readParts(v, ']', depth + 1);
            } else if (first == '{') {
                kinds[v] = OBJECT;
                good = readParts(v, '}', depth + 1);
            } else if (first == '-' || isDigit(first)) {
                good = readNumber(v);
            } else {
                kinds[v] = WORD;
                good = readWord("true") || readWord("false") || readWord("null");
            }
            afters[v] = count;
            skipBlanks();
            return good;
        }

        private boolean readParts(int v, char end, int depth) {
            if (depth > MAX_DEPTH) {
                return false;
            }
            at++;
            skipBlanks();
            if (skip(end)) {
                return true;
            }
            for (int part = 0; part < MAX_VALUES; part++) {
                if (end == '}' && !readMemberName(count)) {
                    return false;
                }
                if (!readValue(depth)) {
                    return false;
                }
                sizes[v]++;
                if (skip(end)) {
                    return true;
                }
                if (!skip(',')) {
                    return false;
                }
            }
            return false;
        }

        private boolean readMemberName(int member) {
            skipBlanks();
            int start = lettersUsed;
            if (member >= MAX_VALUES || !readLetters()) {
                return false;
            }
            nameStarts[member] = start;
            nameSizes[member] = lettersUsed - start;
            skipBlanks();
            return skip(':');
        }

        private boolean readString(int v) {
            kinds[v] = STRING;
            starts[v] = lettersUsed;
            boolean good = readLetters();
            sizes[v] = lettersUsed - starts[v];
            return good;
        }

        private boolean readLetters() {
            if (!skip('"')) {
                return false;
            }
            while (at < sourceSize) {
                if (skip('"')) {
                    return true;
                }
                char c = source[at];
                at++;
                if (c == '\\') {
                    c = escaped();
                } else if (c < 32 || c > 126) {
                    return false;
                }
                if (c == 0 || lettersUsed >= letters.length) {
                    return false;
                }
                letters[lettersUsed] = c;
                lettersUsed++;
            }
            return false;
        }

        /** What the character behind a backslash stands for; 0, which is no input, if for nothing. */
        private char escaped() {
            char c = at < sourceSize ? source[at] : 0;
            at++;
            if (c == 'n') {
                return LINE_END;
            }
            return c == '"' || c == '\\' ? c : 0;
        }

        /** Passes over the word and answers true, or stays and answers false. */
        private boolean readWord(String word) {
            if (word.length() > sourceSize - at) {
                return false;
            }
            for (int i = 0; i < word.length(); i++) {
                if (source[at + i] != word.charAt(i)) {
                    return false;
                }
            }
            at += word.length();
            return true;
        }

        private boolean readNumber(int v) {
            boolean negative = skip('-');
            int start = at;
            int number = 0;
            // A seventh digit is left behind, where it fits nothing that may follow a value.
            while (at < sourceSize && at < start + MAX_DIGITS && isDigit(source[at])) {
                number = number * 10 + (source[at] - '0');
                at++;
            }
            kinds[v] = NUMBER;
            numbers[v] = negative ? -number : number;
            int digits = at - start;
            boolean zeroFirst = digits > 0 && source[start] == '0';
            return digits > 0 && (!zeroFirst || (digits == 1 && !negative));
        }

        private boolean skip(char c) {
            if (at < sourceSize && source[at] == c) {
                at++;
                return true;
            }
            return false;
        }

        private void skipBlanks() {
            while (at < sourceSize && (source[at] == ' ' || source[at] == LINE_END)) {
                at++;
            }
        }

        /** The first member of that name of the whole body; NONE if there is none. */
        int member(String wanted) {
            if (kinds[0] != OBJECT) {
                return NONE;
            }
            int v = 1;
            for (int i = 0; i < sizes[0] && v < count; i++) {
                if (sameLetters(nameStarts[v], nameSizes[v], wanted)) {
                    return v;
                }
                v = afters[v];
            }
            return NONE;
        }

        boolean isNumber(int v) {
            return v >= 0 && v < count && kinds[v] == NUMBER;
        }

        boolean isString(int v) {
            return v >= 0 && v < count && kinds[v] == STRING;
        }

        int numberOf(int v) {
            return v >= 0 && v < count ? numbers[v] : 0;
        }

        int numberAt(int list, int i) {
            return numberOf(item(list, i));
        }

        /** How many letters a string has, or how many parts an array or object. */
        int sizeOf(int v) {
            return v >= 0 && v < count ? sizes[v] : 0;
        }

        char letterOf(int string, int i) {
            int p = string >= 0 && string < count ? starts[string] + i : NONE;
            return p >= 0 && p < lettersUsed ? letters[p] : 0;
        }

        boolean spells(int v, String wanted) {
            return isString(v) && sameLetters(starts[v], sizes[v], wanted);
        }

        private boolean sameLetters(int start, int size, String wanted) {
            if (size != wanted.length() || start + size > lettersUsed) {
                return false;
            }
            for (int i = 0; i < size; i++) {
                if (letters[start + i] != wanted.charAt(i)) {
                    return false;
                }
            }
            return true;
        }

        int item(int list, int i) {
            if (list < 0 || list >= count || kinds[list] != ARRAY || i < 0 || i >= sizes[list]) {
                return NONE;
            }
            int v = list + 1;
            for (int before = 0; before < i && v < count; before++) {
                v = afters[v];
            }
            return v;
        }

        /** Whether v is an array of strings (s) and numbers (n) as the shape tells; * is any more. */
        boolean hasShape(int v, String shape) {
            for (int i = 0; i < shape.length(); i++) {
                char due = shape.charAt(i);
                if (due == '*') {
                    return true;
                }
                int part = item(v, i);
                if (!(due == 's' ? isString(part) : isNumber(part))) {
                    return false;
                }
            }
            return sizeOf(v) == shape.length();
        }
    }

    /** A text with its lines, kept in a row of its own. */
    private static final class Text {
        private static final int MAX_SIZE = 60;
        private static final char WIDE = '~';

        private final char[] letters = new char[MAX_SIZE];
        private int size;

        void copyFrom(Text other) {
            System.arraycopy(other.letters, 0, letters, 0, other.size);
            size = other.size;
        }

        /** Answers false, and leaves the text alone, if it would be too long. */
        boolean replace(int from, int to, Values values, int string) {
            int added = values.sizeOf(string);
            int newSize = size - (to - from) + added;
            if (newSize > MAX_SIZE) {
                return false;
            }
            System.arraycopy(letters, to, letters, from + added, size - to);
            for (int i = 0; i < added; i++) {
                letters[from + i] = values.letterOf(string, i);
            }
            size = newSize;
            return true;
        }

        int lineCount() {
            int lines = 1;
            for (int i = 0; i < size; i++) {
                if (letters[i] == LINE_END) {
                    lines++;
                }
            }
            return lines;
        }

        int placeOf(int line, int units) {
            if (line < 0) {
                return 0;
            }
            int p = startOf(line);
            int left = units;
            while (p < size && letters[p] != LINE_END && widthOf(letters[p]) <= left) {
                left -= widthOf(letters[p]);
                p++;
            }
            return p;
        }

        /** Where the line begins; the text's end if it has not so many lines. */
        private int startOf(int line) {
            int p = 0;
            int linesLeft = line;
            while (p < size && linesLeft > 0) {
                if (letters[p] == LINE_END) {
                    linesLeft--;
                }
                p++;
            }
            return p;
        }

        private static int widthOf(char c) {
            return c == WIDE ? 2 : 1;
        }

        int find(char wanted) {
            for (int i = 0; i < size; i++) {
                if (letters[i] == wanted) {
                    return i;
                }
            }
            return NONE;
        }

        int characterAt(int p) {
            return p >= 0 && p < size ? letters[p] : NONE;
        }
    }

    private static final class Document {
        private static final int MAX_TITLE = 4;

        private final char[] title = new char[MAX_TITLE];
        private final Text content = new Text();
        private int titleSize;
        private int version;

        /** Answers false if name or text is not as a document's must be. */
        boolean begin(Values values, int params) {
            int wanted = values.item(params, 0);
            int wantedSize = values.sizeOf(wanted);
            if (wantedSize < 1 || wantedSize > MAX_TITLE) {
                return false;
            }
            if (!content.replace(0, content.size, values, values.item(params, 2))) {
                return false;
            }
            titleSize = wantedSize;
            for (int i = 0; i < titleSize; i++) {
                title[i] = values.letterOf(wanted, i);
            }
            version = values.numberAt(params, 1);
            return true;
        }

        boolean isNamed(Values values, int string) {
            if (values.sizeOf(string) != titleSize) {
                return false;
            }
            for (int i = 0; i < titleSize; i++) {
                if (values.letterOf(string, i) != title[i]) {
                    return false;
                }
            }
            return true;
        }
    }

    /** The open documents in front, and behind them the rows that wait to be used again. */
    private static final class Shelf {
        private static final int MAX_DOCUMENTS = 3;

        private final Document[] rows = new Document[MAX_DOCUMENTS];
        // Edits are tried here first, because one bad edit undoes all of its notification.
        private final Text draft = new Text();
        private int count;

        Shelf() {
            for (int d = 0; d < MAX_DOCUMENTS; d++) {
                rows[d] = new Document();
            }
        }

        int find(Values values, int string) {
            for (int d = 0; d < count; d++) {
                if (rows[d].isNamed(values, string)) {
                    return d;
                }
            }
            return NONE;
        }

        boolean open(Values values, int params) {
            if (!values.hasShape(params, "sns") || count >= MAX_DOCUMENTS) {
                return false;
            }
            if (find(values, values.item(params, 0)) != NONE || !rows[count].begin(values, params)) {
                return false;
            }
            count++;
            return true;
        }

        boolean close(Values values, int params) {
            int d = values.hasShape(params, "s") ? find(values, values.item(params, 0)) : NONE;
            if (d == NONE) {
                return false;
            }
            Document closed = rows[d];
            count--;
            for (int i = d; i < count; i++) {
                rows[i] = rows[i + 1];
            }
            rows[count] = closed;
            return true;
        }

        boolean change(Values values, int params) {
            int d = values.hasShape(params, "sn*") ? find(values, values.item(params, 0)) : NONE;
            if (d == NONE || values.numberAt(params, 1) <= rows[d].version) {
                return false;
            }
            draft.copyFrom(rows[d].content);
            for (int i = 2; i < values.sizeOf(params); i++) {
                if (!edit(values, values.item(params, i))) {
                    return false;
                }
            }
            rows[d].content.copyFrom(draft);
            rows[d].version = values.numberAt(params, 1);
            return true;
        }

        private boolean edit(Values values, int edit) {
            if (values.isString(edit)) {
                return draft.replace(0, draft.size, values, edit);
            }
            if (!values.hasShape(edit, "nnnns")) {
                return false;
            }
            int p = draft.placeOf(values.numberAt(edit, 0), values.numberAt(edit, 1));
            int q = draft.placeOf(values.numberAt(edit, 2), values.numberAt(edit, 3));
            return draft.replace(Math.min(p, q), Math.max(p, q), values, values.item(edit, 4));
        }
    }

    /** A waiting request, with the text as it was when the request came. */
    private static final class Asked {
        private final Text content = new Text();
        private int id;
        private int kind;
        private char wanted;
        private int line;
        private int units;

        void keepDetails(Values values, int params) {
            if (kind == INDEX) {
                wanted = values.letterOf(values.item(params, 1), 0);
            } else if (kind == AT) {
                line = values.numberAt(params, 1);
                units = values.numberAt(params, 2);
            }
        }

        /** The result; NONE if there is no such character. */
        int workOut() {
            switch (kind) {
                case LENGTH:
                    return content.size;
                case INDEX:
                    return content.find(wanted);
                case AT:
                    return content.characterAt(content.placeOf(line, units));
                default:
                    return content.lineCount();
            }
        }
    }

    /** The waiting requests in front, and behind them the rows that wait to be used again. */
    private static final class Queue {
        private static final int MAX_WAITING = 8;

        private final Asked[] rows = new Asked[MAX_WAITING];
        private int count;

        Queue() {
            for (int k = 0; k < MAX_WAITING; k++) {
                rows[k] = new Asked();
            }
        }

        boolean isFull() {
            return count >= MAX_WAITING;
        }

        /** Only to be called while the queue is not full. */
        Asked addRow() {
            count++;
            return rows[count - 1];
        }

        int find(int id) {
            for (int k = 0; k < count; k++) {
                if (rows[k].id == id) {
                    return k;
                }
            }
            return NONE;
        }

        Asked takeOut(int k) {
            Asked taken = rows[k];
            count--;
            for (int i = k; i < count; i++) {
                rows[i] = rows[i + 1];
            }
            rows[count] = taken;
            return taken;
        }
    }

    /** The responses that are kept. */
    private static final class Answers {
        private static final int MAX_KEPT = 60;

        private final int[] ids = new int[MAX_KEPT];
        private final boolean[] withId = new boolean[MAX_KEPT];
        private final boolean[] withResult = new boolean[MAX_KEPT];
        private final int[] contents = new int[MAX_KEPT];
        private final StringBuilder line = new StringBuilder();
        private int count;

        void addResult(int id, int result) {
            add(true, id, true, result);
        }

        void addError(int id, int error) {
            add(true, id, false, error);
        }

        void addErrorWithoutId(int error) {
            add(false, 0, false, error);
        }

        private void add(boolean identified, int id, boolean good, int content) {
            if (count < MAX_KEPT) {
                withId[count] = identified;
                ids[count] = id;
                withResult[count] = good;
                contents[count] = content;
                count++;
            }
        }

        char frameCharacter(int k, int i) {
            line.setLength(0);
            writeBody(k);
            // The header tells the body's length, which is known only when the body has been written once.
            int bodySize = line.length();
            line.setLength(0);
            line.append(bodySize);
            line.append(':');
            writeBody(k);
            return i >= 0 && i < line.length() ? line.charAt(i) : 0;
        }

        private void writeBody(int k) {
            line.append("{\"id\":");
            if (withId[k]) {
                line.append(ids[k]);
            } else {
                line.append("null");
            }
            line.append(withResult[k] ? ",\"result\":" : ",\"error\":");
            line.append(contents[k]);
            line.append('}');
        }
    }
}
