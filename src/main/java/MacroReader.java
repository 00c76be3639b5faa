import java.util.ArrayList;
import java.util.Arrays;

/**
 * The lines of a source as they are read: macros with what they are given, repetition and
 * conditions, one in the other, till only plain lines are left.
 */
public final class MacroReader {
    private static final int MOST_SOURCE_BYTES = 65536;
    private static final int MOST_LINE_BYTES = 1024;
    private static final int MOST_LINES_READ = 65536;
    private static final int MOST_NAME_BYTES = 63;
    private static final int MOST_OPEN = 20;
    private static final int MOST_TURNS = 4096;
    // A step reads a line, or goes back to one, or ends what a line began: some 200000 are the most.
    private static final int MOST_STEPS = 1000000;

    private static final int NO_WORD = 0;
    private static final int IF = 1;
    private static final int ELSE = 2;
    private static final int ENDIF = 3;
    private static final int REPT = 4;
    private static final int ENDR = 5;
    private static final int MACRO = 6;
    private static final int ENDM = 7;

    // A sign's kind is its byte, so these stay out of the way of 32 .. 126; where no token is, 0 is answered.
    private static final int BAD = -1;
    private static final int NAME = 1;
    private static final int NUMBER = 2;
    private static final int TEXT = 3;

    private static final int FORM_FAULT = 1;
    private static final int NAME_FAULT = 3;
    private static final int SIZE_FAULT = 5;
    private static final int ORDER_FAULT = 6;
    private static final int RANGE_FAULT = 7;

    private static final int GO_ON = 0;
    private static final int PLAIN = 1;
    private static final int STOP = 2;

    private final Source source = new Source();
    private final Bytes read = new Bytes(MOST_LINE_BYTES, MOST_LINE_BYTES);
    private final Tokens tokens = new Tokens(read);
    private final Nest nest = new Nest();
    private final ArrayList<Macro> macros = new ArrayList<>();
    private Bytes text = new Bytes(256, MOST_SOURCE_BYTES);
    private int position;
    private int linesRead;
    private int macrosRead;
    private int toldLine;
    private int faultKind;
    private boolean reading;
    private boolean plain;

    public MacroReader() {
    }

    public boolean type(long word, int n) {
        if (n < 1 || n > 8 || text.size() + n > MOST_SOURCE_BYTES) {
            return false;
        }
        for (int i = n - 1; i >= 0; i--) {
            text.append((int) (word >>> (8 * i)) & 255);
        }
        return true;
    }

    public int begin() {
        text = source.exchange(text);
        text.clear();
        nest.clear();
        macros.clear();
        position = 0;
        linesRead = 0;
        macrosRead = 0;
        toldLine = 0;
        faultKind = 0;
        reading = true;
        plain = false;
        return source.count();
    }

    public int next() throws IllegalArgumentException {
        plain = false;
        if (!reading) {
            return -1;
        }
        int outcome = GO_ON;
        for (int step = 0; step < MOST_STEPS && outcome == GO_ON; step++) {
            outcome = position < limit() ? readLine() : endLines();
        }
        plain = outcome == PLAIN;
        if (plain) {
            return read.size();
        }
        reading = false;
        nest.clear();
        if (faultKind != 0) {
            throw new IllegalArgumentException("the source has a fault");
        }
        toldLine = 0;
        return -1;
    }

    public int octet(int i) {
        return plain ? read.at(i) : -1;
    }

    public int line() {
        return toldLine;
    }

    public int fault() {
        return faultKind;
    }

    public int depth() {
        return nest.size();
    }

    /** The line behind the lines that are being read: a macro's, a rept's or the source's. */
    private int limit() {
        Part lines = nest.innermostLines();
        return lines == null ? source.count() : lines.to;
    }

    private int readLine() {
        int at = position;
        position++;
        // What is opened in lines takes over the line that these are told by, so this is the outermost one's.
        Part lines = nest.innermostLines();
        toldLine = lines == null ? at + 1 : lines.line;
        linesRead++;
        if (linesRead > MOST_LINES_READ || !fill(at)) {
            return tell(SIZE_FAULT);
        }
        if (!tokens.takeAll()) {
            return tell(FORM_FAULT);
        }
        if (tokens.kind(0) != NAME) {
            return PLAIN;
        }
        int word = wordIn(read, tokens.start(0), tokens.end(0));
        if (word != NO_WORD) {
            return obey(word);
        }
        Macro macro = macroNamed(0);
        return macro == null ? PLAIN : readMacroLines(macro);
    }

    /** Brings a line as it is read; false if it is too long, in the source or as read. */
    private boolean fill(int at) {
        int start = source.start(at);
        int end = source.end(at);
        read.clear();
        if (end - start > MOST_LINE_BYTES) {
            return false;
        }
        Part innermost = nest.innermostMacro();
        if (innermost == null) {
            return read.appendPart(source.bytes(), start, end);
        }
        return innermost.write(source.bytes(), start, end, read);
    }

    private int obey(int word) {
        switch (word) {
            case IF:
                return readIf();
            case ELSE:
                return readElse();
            case ENDIF:
                return readEndif();
            case REPT:
                return readRept();
            case MACRO:
                return readMacro();
            default:
                // The endr and endm that belong to something are gone through, never read.
                return tell(ORDER_FAULT);
        }
    }

    private int readIf() {
        int limit = limit();
        if (nest.isFull() || isEndMissing(source.find(position, limit, IF, false))) {
            return tell(ORDER_FAULT);
        }
        if (!isNumberAlone()) {
            return tell(FORM_FAULT);
        }
        if (tokens.second() != 0) {
            nest.open(IF);
            return GO_ON;
        }
        int other = source.find(position, limit, IF, true);
        if (other < 0) {
            return tellUnended();
        }
        position = other + 1;
        if (source.word(other) == ELSE) {
            nest.open(ELSE);
        }
        return GO_ON;
    }

    private int readElse() {
        if (nest.topKind() != IF) {
            return tell(ORDER_FAULT);
        }
        int end = source.find(position, limit(), IF, false);
        if (isEndMissing(end)) {
            return tell(ORDER_FAULT);
        }
        if (tokens.count() != 1) {
            return tell(FORM_FAULT);
        }
        if (end < 0) {
            return tellUnended();
        }
        position = end + 1;
        nest.close();
        return GO_ON;
    }

    private int readEndif() {
        if (nest.topKind() != IF && nest.topKind() != ELSE) {
            return tell(ORDER_FAULT);
        }
        if (tokens.count() != 1) {
            return tell(FORM_FAULT);
        }
        nest.close();
        return GO_ON;
    }

    private int readRept() {
        int end = source.find(position, limit(), REPT, false);
        if (nest.isFull() || isEndMissing(end)) {
            return tell(ORDER_FAULT);
        }
        if (!isNumberAlone()) {
            return tell(FORM_FAULT);
        }
        long turns = tokens.second();
        if (turns < 0 || turns > MOST_TURNS) {
            return tell(RANGE_FAULT);
        }
        if (end < 0) {
            return tellUnended();
        }
        // Without lines between there is nothing to go round for.
        if (turns > 0 && position < end) {
            Part part = nest.open(REPT);
            if (part != null) {
                part.turnsLeft = (int) turns;
                part.lay(position, end, end + 1, toldLine);
                return GO_ON;
            }
        }
        position = end + 1;
        return GO_ON;
    }

    private int readMacro() {
        if (nest.innermostLines() != null) {
            return tell(ORDER_FAULT);
        }
        if (tokens.kind(1) == NAME && isTaken(1)) {
            return tell(NAME_FAULT);
        }
        if (!isHeading()) {
            return tell(FORM_FAULT);
        }
        int end = source.find(position, source.count(), MACRO, false);
        if (end < 0) {
            return tellUnended();
        }
        macros.add(new Macro(tokens, source.start(position - 1), position, end));
        position = end + 1;
        return GO_ON;
    }

    private int readMacroLines(Macro macro) {
        Part part = nest.spare();
        if (part == null || !part.gather(read, tokens, macro)) {
            return tell(ORDER_FAULT);
        }
        part.serial = macrosRead;
        macrosRead++;
        part.lay(macro.from, macro.to, position, toldLine);
        nest.open(MACRO);
        position = macro.from;
        return GO_ON;
    }

    /** Behind the last of the lines that are being read: goes round, back to where they were asked for, or stops. */
    private int endLines() {
        Part top = nest.top();
        if (top == null) {
            return STOP;
        }
        if (!top.hasLines()) {
            return nest.innermostLines() == null ? tellUnended() : tell(ORDER_FAULT);
        }
        top.turnsLeft--;
        if (top.kind == REPT && top.turnsLeft > 0) {
            position = top.from;
            return GO_ON;
        }
        position = top.back;
        nest.close();
        return GO_ON;
    }

    private int tell(int kind) {
        faultKind = kind;
        return STOP;
    }

    private int tellUnended() {
        toldLine = source.count();
        return tell(ORDER_FAULT);
    }

    /** In the source's own lines, what has no end is told at the last of them, behind all other faults. */
    private boolean isEndMissing(int end) {
        return end < 0 && nest.innermostLines() != null;
    }

    private boolean isNumberAlone() {
        return tokens.count() == 2 && tokens.kind(1) == NUMBER;
    }

    /** Whether names parted by commas, or nothing, stand behind the name of a macro. */
    private boolean isHeading() {
        int count = tokens.count();
        if (tokens.kind(1) != NAME || (count > 2 && count % 2 == 0)) {
            return false;
        }
        for (int i = 2; i < count; i++) {
            if (tokens.kind(i) != (i % 2 == 0 ? NAME : ',')) {
                return false;
            }
        }
        return true;
    }

    private boolean isTaken(int token) {
        return wordIn(read, tokens.start(token), tokens.end(token)) != NO_WORD || macroNamed(token) != null;
    }

    private Macro macroNamed(int token) {
        int start = tokens.start(token);
        int length = tokens.end(token) - start;
        for (int i = 0; i < macros.size(); i++) {
            Macro macro = macros.get(i);
            if (macro.nameLength == length && source.bytes().isSame(macro.nameStart, length, read, start)) {
                return macro;
            }
        }
        return null;
    }

    private static int wordIn(Bytes bytes, int start, int end) {
        for (int word = IF; word <= ENDM; word++) {
            if (bytes.spells(spelling(word), start, end)) {
                return word;
            }
        }
        return NO_WORD;
    }

    private static String spelling(int word) {
        switch (word) {
            case IF:
                return "if";
            case ELSE:
                return "else";
            case ENDIF:
                return "endif";
            case REPT:
                return "rept";
            case ENDR:
                return "endr";
            case MACRO:
                return "macro";
            default:
                return "endm";
        }
    }

    private static int endWord(int word) {
        switch (word) {
            case IF:
                return ENDIF;
            case REPT:
                return ENDR;
            default:
                return ENDM;
        }
    }

    private static boolean isBlank(int octet) {
        return octet == 9 || octet == 32;
    }

    private static boolean isDigit(int octet) {
        return octet >= '0' && octet <= '9';
    }

    private static boolean isNameByte(int octet) {
        return (octet >= 'a' && octet <= 'z') || (octet >= 'A' && octet <= 'Z') || isDigit(octet)
                || octet == '_' || octet == '.';
    }

    private static boolean isPrintable(int octet) {
        return octet >= 32 && octet <= 126;
    }

    /** The worth of a digit in a base, or -1 if it is none there. */
    private static int digitIn(int base, int octet) {
        int worth = -1;
        if (isDigit(octet)) {
            worth = octet - '0';
        } else if (octet >= 'a' && octet <= 'f') {
            worth = octet - 'a' + 10;
        } else if (octet >= 'A' && octet <= 'F') {
            worth = octet - 'A' + 10;
        }
        return worth < base ? worth : -1;
    }

    /** Bytes in a row that grows up to a limit; they are answered as 0 .. 255, and as -1 where none is. */
    private static final class Bytes {
        private final int limit;
        private byte[] row;
        private int size;

        Bytes(int first, int limit) {
            this.limit = limit;
            this.row = new byte[Math.max(0, first)];
        }

        int size() {
            return size;
        }

        void clear() {
            size = 0;
        }

        int at(int i) {
            return i >= 0 && i < size && i < row.length ? row[i] & 255 : -1;
        }

        private boolean holds(int start, int length) {
            return start >= 0 && length >= 0 && length <= size - start;
        }

        boolean append(int octet) {
            if (size >= limit) {
                return false;
            }
            if (size >= row.length) {
                row = Arrays.copyOf(row, Math.min(limit, 2 * row.length + 16));
            }
            row[size] = (byte) octet;
            size++;
            return true;
        }

        boolean appendPart(Bytes from, int start, int end) {
            for (int i = start; i < end; i++) {
                if (!append(from.at(i))) {
                    return false;
                }
            }
            return true;
        }

        boolean appendDecimal(int number) {
            boolean begun = false;
            boolean room = true;
            for (int unit = 1000000000; unit > 0; unit /= 10) {
                int digit = number / unit % 10;
                begun = begun || digit != 0 || unit == 1;
                if (begun) {
                    room = append('0' + digit) && room;
                }
            }
            return room;
        }

        int behindBlanks(int from) {
            int i = from;
            while (i < size && isBlank(at(i))) {
                i++;
            }
            return i;
        }

        int behindNameBytes(int from) {
            int i = from;
            while (i < size && isNameByte(at(i))) {
                i++;
            }
            return i;
        }

        boolean spells(String name, int start, int end) {
            if (end - start != name.length() || !holds(start, name.length())) {
                return false;
            }
            for (int i = 0; i < name.length(); i++) {
                if (row[start + i] != name.charAt(i)) {
                    return false;
                }
            }
            return true;
        }

        boolean isSame(int start, int length, Bytes other, int otherStart) {
            if (!holds(start, length) || !other.holds(otherStart, length)) {
                return false;
            }
            for (int i = 0; i < length; i++) {
                if (row[start + i] != other.row[otherStart + i]) {
                    return false;
                }
            }
            return true;
        }
    }

    /** Ints in a row that grows; 0 is answered where none is. */
    private static final class Ints {
        private int[] row = new int[8];
        private int size;

        int size() {
            return size;
        }

        void clear() {
            size = 0;
        }

        int at(int i) {
            return i >= 0 && i < size && i < row.length ? row[i] : 0;
        }

        void add(int value) {
            if (size >= row.length) {
                row = Arrays.copyOf(row, 2 * row.length + 8);
            }
            row[size] = value;
            size++;
        }
    }

    /** The bytes that are read, where their lines begin and end, and the words that these begin with. */
    private static final class Source {
        private final Ints starts = new Ints();
        private final Ints ends = new Ints();
        private final Ints words = new Ints();
        private Bytes bytes = new Bytes(256, MOST_SOURCE_BYTES);

        /** Takes new bytes and hands back the old ones' row, so that no call has to make one. */
        Bytes exchange(Bytes fresh) {
            Bytes old = bytes;
            bytes = fresh;
            starts.clear();
            ends.clear();
            words.clear();
            int start = 0;
            for (int i = 0; i < bytes.size(); i++) {
                if (bytes.at(i) == 10) {
                    addLine(start, i);
                    start = i + 1;
                }
            }
            if (start < bytes.size()) {
                addLine(start, bytes.size());
            }
            return old;
        }

        private void addLine(int start, int end) {
            starts.add(start);
            ends.add(end);
            // The byte 10 is neither a blank nor part of a name, so neither search leaves the line.
            int name = bytes.behindBlanks(start);
            words.add(wordIn(bytes, name, bytes.behindNameBytes(name)));
        }

        Bytes bytes() {
            return bytes;
        }

        int count() {
            return starts.size();
        }

        int start(int at) {
            return starts.at(at);
        }

        int end(int at) {
            return ends.at(at);
        }

        int word(int at) {
            return words.at(at);
        }

        /** The line, from one on and ahead of another, that ends what a word began, or its else if that may be; or -1. */
        int find(int from, int to, int beginning, boolean orElse) {
            int end = endWord(beginning);
            boolean counts = beginning != MACRO;
            int open = 0;
            for (int at = from; at < to; at++) {
                int word = words.at(at);
                if (open == 0 && (word == end || (orElse && word == ELSE))) {
                    return at;
                }
                if (word == end) {
                    open--;
                } else if (counts && word == beginning) {
                    open++;
                }
            }
            return -1;
        }
    }

    /** The tokens of the line that is read. */
    private static final class Tokens {
        private final Bytes bytes;
        private final Ints kinds = new Ints();
        private final Ints starts = new Ints();
        private final Ints ends = new Ints();
        // The place behind the token that was taken last, and its worth if it is a number.
        private int stop;
        private long value;
        // No number is ever asked for but the one behind a word.
        private long second;

        Tokens(Bytes bytes) {
            this.bytes = bytes;
        }

        int count() {
            return kinds.size();
        }

        int kind(int i) {
            return kinds.at(i);
        }

        int start(int i) {
            return starts.at(i);
        }

        int end(int i) {
            return ends.at(i);
        }

        long second() {
            return second;
        }

        /** Takes the whole line, up to a comment; false where no token can be. */
        boolean takeAll() {
            kinds.clear();
            starts.clear();
            ends.clear();
            int at = bytes.behindBlanks(0);
            for (int turn = 0; turn < bytes.size(); turn++) {
                if (at >= bytes.size() || bytes.at(at) == ';') {
                    return true;
                }
                int kind = take(at);
                if (kind == BAD) {
                    return false;
                }
                if (kinds.size() == 1) {
                    second = value;
                }
                kinds.add(kind);
                starts.add(at);
                ends.add(stop);
                at = bytes.behindBlanks(stop);
            }
            return true;
        }

        private int take(int at) {
            int first = bytes.at(at);
            if (isDigit(first)) {
                return takeNumber(at);
            }
            if (isNameByte(first)) {
                stop = bytes.behindNameBytes(at);
                return stop - at <= MOST_NAME_BYTES ? NAME : BAD;
            }
            if (first == '\'') {
                return takeCharacter(at);
            }
            return first == '"' ? takeText(at) : takeSign(at, first);
        }

        private int takeNumber(int at) {
            int base = 10;
            if (bytes.at(at) == '0') {
                base = baseMarked(bytes.at(at + 1));
            }
            int first = base == 10 ? at : at + 2;
            boolean fits = true;
            value = 0;
            stop = first;
            while (stop < bytes.size() && digitIn(base, bytes.at(stop)) >= 0) {
                int digit = digitIn(base, bytes.at(stop));
                fits = fits && hasRoom(base, digit);
                value = value * base + digit;
                stop++;
            }
            return fits && stop > first && !isNameByte(bytes.at(stop)) ? NUMBER : BAD;
        }

        private static int baseMarked(int mark) {
            if (mark == 'x') {
                return 16;
            }
            return mark == 'b' ? 2 : 10;
        }

        /** Whether the value stays below 2 to the power 64 with one more digit. */
        private boolean hasRoom(int base, int digit) {
            if (base == 16) {
                return value >>> 60 == 0;
            }
            if (base == 2) {
                return value >>> 63 == 0;
            }
            long most = 1844674407370955161L;
            return value >= 0 && (value < most || (value == most && digit <= 5));
        }

        private int takeCharacter(int at) {
            int behind = behindCharacter(at + 1, '\'');
            if (behind < 0 || bytes.at(behind) != '\'' || isNameByte(bytes.at(behind + 1))) {
                return BAD;
            }
            stop = behind + 1;
            return NUMBER;
        }

        private int takeText(int at) {
            int behind = at + 1;
            for (int turn = 0; turn < bytes.size(); turn++) {
                if (bytes.at(behind) == '"') {
                    stop = behind + 1;
                    return TEXT;
                }
                behind = behindCharacter(behind, '"');
                if (behind < 0) {
                    return BAD;
                }
            }
            return BAD;
        }

        /** The place behind a character or an escape, or -1 if none stands there; its value is kept. */
        private int behindCharacter(int at, int quote) {
            int first = bytes.at(at);
            if (!isPrintable(first) || first == quote) {
                return -1;
            }
            if (first != '\\') {
                value = first;
                return at + 1;
            }
            int escaped = bytes.at(at + 1);
            if (!isPrintable(escaped)) {
                return -1;
            }
            value = worthOfEscape(escaped);
            return at + 2;
        }

        private static int worthOfEscape(int escaped) {
            switch (escaped) {
                case 'n':
                    return 10;
                case 't':
                    return 9;
                case '0':
                    return 0;
                default:
                    return escaped;
            }
        }

        private int takeSign(int at, int first) {
            stop = at + 1;
            switch (first) {
                case ',': case ':': case '[': case ']': case '(': case ')':
                case '+': case '-': case '*': case '/': case '%':
                case '&': case '|': case '^': case '~': case '$':
                    return first;
                case '<': case '>':
                    stop = at + 2;
                    return bytes.at(at + 1) == first ? first : BAD;
                default:
                    return BAD;
            }
        }
    }

    /** A macro: where its name, the names of its places and its lines stand in the source. */
    private static final class Macro {
        private final int nameStart;
        private final int nameLength;
        private final int from;
        private final int to;
        private final Ints starts = new Ints();
        private final Ints lengths = new Ints();

        /** Of a heading whose line begins at an offset: its name is the second token, each other one from there on a place. */
        Macro(Tokens heading, int offset, int from, int to) {
            this.nameStart = offset + heading.start(1);
            this.nameLength = heading.end(1) - heading.start(1);
            this.from = from;
            this.to = to;
            for (int i = 2; i < heading.count(); i += 2) {
                starts.add(offset + heading.start(i));
                lengths.add(heading.end(i) - heading.start(i));
            }
        }

        int places() {
            return starts.size();
        }

        int placeLength(int place) {
            return lengths.at(place);
        }

        /** The place with the longest name that stands from one byte on, ahead of another; or -1. */
        int placeAt(Bytes bytes, int at, int end) {
            int best = -1;
            int bestLength = 0;
            for (int i = 0; i < starts.size(); i++) {
                int length = lengths.at(i);
                if (length > bestLength && at + length <= end && bytes.isSame(starts.at(i), length, bytes, at)) {
                    best = i;
                    bestLength = length;
                }
            }
            return best;
        }
    }

    /** One if, rept or macro that is being read; an if in its second part has the kind ELSE. */
    private static final class Part {
        private int kind;
        private int from;
        private int to;
        private int back;
        private int line;
        private int turnsLeft;
        private int serial;
        private Macro macro;
        // The line that asked for the macro, and where in it what is given for each place stands.
        private final Bytes given = new Bytes(16, MOST_LINE_BYTES);
        private final Ints starts = new Ints();
        private final Ints ends = new Ints();

        boolean hasLines() {
            return kind == REPT || kind == MACRO;
        }

        void lay(int from, int to, int back, int line) {
            this.from = from;
            this.to = to;
            this.back = back;
            this.line = line;
        }

        /** Keeps what stands behind the name of a macro; false if that is more than the macro has places for. */
        boolean gather(Bytes asked, Tokens tokens, Macro macro) {
            this.macro = macro;
            given.clear();
            given.appendPart(asked, 0, asked.size());
            starts.clear();
            ends.clear();
            int count = tokens.count();
            if (count < 2) {
                return true;
            }
            int first = 1;
            int deep = 0;
            for (int i = 1; i < count; i++) {
                int sign = tokens.kind(i);
                if (sign == ',' && deep == 0) {
                    keep(tokens, first, i);
                    first = i + 1;
                } else if (sign == '(' || sign == '[') {
                    deep++;
                } else if ((sign == ')' || sign == ']') && deep > 0) {
                    deep--;
                }
            }
            keep(tokens, first, count);
            return starts.size() <= macro.places();
        }

        private void keep(Tokens tokens, int first, int behind) {
            boolean some = first < behind;
            starts.add(some ? tokens.start(first) : 0);
            ends.add(some ? tokens.end(behind - 1) : 0);
        }

        /** Writes a line of the macro with everything replaced; false if it becomes too long. */
        boolean write(Bytes source, int start, int end, Bytes into) {
            int at = start;
            for (int turn = start; turn < end && at < end; turn++) {
                int used = writeAt(source, at, end, into);
                if (used == 0) {
                    return false;
                }
                at += used;
            }
            return true;
        }

        /** Writes what stands at a byte of the source: how many bytes this was, or 0 if there is no room. */
        private int writeAt(Bytes source, int at, int end, Bytes into) {
            int octet = source.at(at);
            if (octet != '\\') {
                return into.append(octet) ? 1 : 0;
            }
            if (at + 1 < end && source.at(at + 1) == '@') {
                return into.appendDecimal(serial) ? 2 : 0;
            }
            int place = macro == null ? -1 : macro.placeAt(source, at + 1, end);
            if (place < 0) {
                return into.append(octet) ? 1 : 0;
            }
            return into.appendPart(given, starts.at(place), ends.at(place)) ? 1 + macro.placeLength(place) : 0;
        }
    }

    /** What is being read, one in the other. */
    private static final class Nest {
        private final Part[] parts = new Part[MOST_OPEN];
        private int size;

        Nest() {
            for (int i = 0; i < parts.length; i++) {
                parts[i] = new Part();
            }
        }

        int size() {
            return size;
        }

        void clear() {
            size = 0;
        }

        boolean isFull() {
            return size >= parts.length;
        }

        private Part at(int i) {
            return i >= 0 && i < parts.length ? parts[i] : null;
        }

        /** The part that would be opened next, or null if all are open. */
        Part spare() {
            return at(size);
        }

        Part open(int kind) {
            Part part = at(size);
            if (part != null) {
                part.kind = kind;
                size++;
            }
            return part;
        }

        void close() {
            if (size > 0) {
                size--;
            }
        }

        Part top() {
            return at(size - 1);
        }

        int topKind() {
            Part top = top();
            return top == null ? NO_WORD : top.kind;
        }

        Part innermostLines() {
            for (int i = size - 1; i >= 0; i--) {
                Part part = at(i);
                if (part != null && part.hasLines()) {
                    return part;
                }
            }
            return null;
        }

        Part innermostMacro() {
            for (int i = size - 1; i >= 0; i--) {
                Part part = at(i);
                if (part != null && part.kind == MACRO) {
                    return part;
                }
            }
            return null;
        }
    }
}
