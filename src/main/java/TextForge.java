import java.util.NoSuchElementException;

/**
 * Numbers, truths and texts made into text and taken out of it: by letters with flags and widths,
 * quoted, in any base, as codes and bytes.
 */
public final class TextForge {
    private static final int MOST_BYTES = 4096;
    private static final int BYTES_OF_A_FEED = 20;
    private static final int GREATEST_WIDTH = 99;
    private static final int LEAST_BASE = 2;
    private static final int GREATEST_BASE = 36;
    private static final int NIL = -1;
    private static final int LAST_SORT = 8;

    private final Bytes fed = new Bytes(MOST_BYTES);
    // What is shorter than its width is padded when it stands here whole, so the row has room for
    // it even behind the last byte that is kept.
    private final Bytes result = new Bytes(MOST_BYTES + GREATEST_WIDTH);
    private final Arguments arguments = new Arguments();
    private final Directive directive = new Directive();
    private final Printer printer = new Printer();
    private final Codes codes = new Codes();
    private long latestNumber = 0;

    public TextForge() {
    }

    public boolean feed(int a, int b, int c, int d, int e) {
        if (fed.length() + BYTES_OF_A_FEED > MOST_BYTES) {
            return false;
        }
        fed.addFourBytes(a);
        fed.addFourBytes(b);
        fed.addFourBytes(c);
        fed.addFourBytes(d);
        fed.addFourBytes(e);
        return true;
    }

    public boolean end(int n) {
        if (n < 0 || n > fed.length()) {
            return false;
        }
        fed.cut(n);
        return true;
    }

    public int number(long v, boolean sign) throws IllegalStateException {
        requireRoomForArgument();
        return arguments.add(new Argument(sign ? Argument.SIGNED : Argument.UNSIGNED, v, null));
    }

    public int truth(boolean v) throws IllegalStateException {
        requireRoomForArgument();
        return arguments.add(new Argument(Argument.TRUTH, v ? 1 : 0, null));
    }

    public int text() throws IllegalStateException {
        requireRoomForArgument();
        Argument argument = new Argument(Argument.TEXT, 0, fed.copy());
        fed.cut(0);
        return arguments.add(argument);
    }

    public int thing(int sort) throws IllegalArgumentException, IllegalStateException {
        if (sort < NIL || sort > LAST_SORT) {
            throw new IllegalArgumentException("no such sort");
        }
        requireRoomForArgument();
        return arguments.add(new Argument(Argument.THING, sort, null));
    }

    public void clear() {
        arguments.drop();
    }

    public int format() {
        result.cut(0);
        directive.close();
        for (int i = 0; i < fed.length(); i++) {
            int value = fed.at(i);
            if (directive.isOpen()) {
                directive.take(value);
                if (!directive.isOpen()) {
                    printer.putBy(directive, arguments, result);
                }
            } else if (value == '%') {
                directive.open();
            } else {
                result.add(value);
            }
        }
        if (directive.isOpen()) {
            result.addWord("%!");
        }
        fed.cut(0);
        arguments.drop();
        return keptOfResult();
    }

    public int join(boolean blanks) {
        result.cut(0);
        for (int i = 0; i < arguments.count(); i++) {
            if (blanks && i > 0) {
                result.add(' ');
            }
            printer.putPlain(arguments.at(i), result);
        }
        arguments.drop();
        return keptOfResult();
    }

    public int quote() {
        result.cut(0);
        Quoting.putText(fed, result);
        fed.cut(0);
        return keptOfResult();
    }

    public boolean parse(int base) throws IllegalArgumentException {
        if (base < LEAST_BASE || base > GREATEST_BASE) {
            throw new IllegalArgumentException("no such base");
        }
        latestNumber = 0;
        boolean isNumber = readNumber(base);
        fed.cut(0);
        return isNumber;
    }

    public long parsed() {
        return latestNumber;
    }

    public int encode(int code) {
        result.cut(0);
        Utf8.put(Utf8.codeOf(code), result);
        return keptOfResult();
    }

    public int decode() {
        codes.take(fed);
        fed.cut(0);
        return codes.count();
    }

    public int code(int k, int what) throws NoSuchElementException {
        if (k < 0 || k >= codes.count() || what < 0 || what > 2) {
            throw new NoSuchElementException("no such code, or nothing of it by this number");
        }
        if (what == 0) {
            return codes.valueOf(k);
        }
        return what == 1 ? codes.placeOf(k) : codes.bytesOf(k);
    }

    public int size() {
        return result.length();
    }

    public int byteOf(int i) throws NoSuchElementException {
        int found = result.at(i);
        if (found == Bytes.NONE) {
            throw new NoSuchElementException("the result has no such byte");
        }
        return found;
    }

    private void requireRoomForArgument() {
        if (arguments.isFull()) {
            throw new IllegalStateException("there are as many arguments as there may be");
        }
    }

    private int keptOfResult() {
        result.cut(MOST_BYTES);
        return result.length();
    }

    private boolean readNumber(int base) {
        int sign = fed.at(0);
        int first = sign == '+' || sign == '-' ? 1 : 0;
        if (base < LEAST_BASE || first >= fed.length()) {
            return false;
        }
        // The value is kept at or below 0, since the least number has no counterpart above 0.
        long least = sign == '-' ? Long.MIN_VALUE : -Long.MAX_VALUE;
        long leastToMultiply = least / base;
        long value = 0;
        for (int i = first; i < fed.length(); i++) {
            int digit = digitOf(fed.at(i));
            if (digit < 0 || digit >= base || value < leastToMultiply) {
                return false;
            }
            value *= base;
            if (value < least + digit) {
                return false;
            }
            value -= digit;
        }
        latestNumber = sign == '-' ? value : -value;
        return true;
    }

    private static int digitOf(int letter) {
        if (letter >= '0' && letter <= '9') {
            return letter - '0';
        }
        if (letter >= 'a' && letter <= 'z') {
            return letter - 'a' + 10;
        }
        return letter >= 'A' && letter <= 'Z' ? letter - 'A' + 10 : -1;
    }

    /** A row of bytes with a fixed room; what is added beyond the room is lost. */
    private static final class Bytes {
        static final int NONE = -1;

        private final byte[] row;
        private int length = 0;

        Bytes(int room) {
            row = new byte[Math.max(0, room)];
        }

        int length() {
            return length;
        }

        /** The byte at a place, 0 .. 255, or NONE where there is none. */
        int at(int place) {
            return place >= 0 && place < length ? row[place] & 255 : NONE;
        }

        void add(int value) {
            if (length < row.length) {
                row[length] = (byte) value;
                length++;
            }
        }

        void addFourBytes(int value) {
            add(value >>> 24);
            add(value >>> 16);
            add(value >>> 8);
            add(value);
        }

        void addWord(String word) {
            for (int i = 0; i < word.length(); i++) {
                add(word.charAt(i));
            }
        }

        void addPart(Bytes other, int from, int to) {
            for (int i = from; i < to; i++) {
                add(other.at(i));
            }
        }

        void addTimes(int value, int times) {
            for (int i = 0; i < times; i++) {
                add(value);
            }
        }

        void cut(int most) {
            if (most >= 0 && most < length) {
                length = most;
            }
        }

        Bytes copy() {
            Bytes twin = new Bytes(length);
            twin.addPart(this, 0, length);
            return twin;
        }

        /** Brings what stands from a place on to a width, by blanks in front of it or behind. */
        void pad(int from, int width, boolean behind) {
            int blanks = width - (length - from);
            if (from < 0 || blanks <= 0) {
                return;
            }
            addTimes(' ', blanks);
            if (behind) {
                return;
            }
            for (int i = length - 1; i >= from; i--) {
                row[i] = i - blanks >= from ? row[i - blanks] : (byte) ' ';
            }
        }
    }

    /** One argument; its content is null unless it is a text. */
    private static final class Argument {
        static final int SIGNED = 0;
        static final int UNSIGNED = 1;
        static final int TRUTH = 2;
        static final int TEXT = 3;
        static final int THING = 4;

        private final int kind;
        private final long value;
        private final Bytes content;

        Argument(int kind, long value, Bytes content) {
            this.kind = kind;
            this.value = value;
            this.content = content;
        }

        boolean isNumber() {
            return kind == SIGNED || kind == UNSIGNED;
        }

        boolean isTruth() {
            return kind == TRUTH;
        }

        boolean isBelowZero() {
            return kind == SIGNED && value < 0;
        }

        long value() {
            return value;
        }

        /** The number without its sign, as 64 bits without sign. */
        long magnitude() {
            return isBelowZero() ? -value : value;
        }

        Bytes content() {
            return content;
        }

        /** Plain text of what is neither a number nor a text. */
        String word() {
            if (kind == TRUTH) {
                return value != 0 ? "true" : "false";
            }
            return switch ((int) value) {
                case 0 -> "(ptr)";
                case 1 -> "(func)";
                case 2 -> "(slice)";
                case 3 -> "(map)";
                case 4 -> "(chan)";
                case 5 -> "(interface)";
                case 6 -> "(struct)";
                case 7 -> "(array)";
                case 8 -> "(gate)";
                default -> "nil";
            };
        }
    }

    /** The arguments in a row. */
    private static final class Arguments {
        private static final int MOST = 16;

        private final Argument[] row = new Argument[MOST];
        private int count = 0;
        private int used = 0;

        int count() {
            return count;
        }

        boolean isFull() {
            return count >= row.length;
        }

        int add(Argument argument) {
            if (count < row.length) {
                row[count] = argument;
                count++;
            }
            return count;
        }

        /** The argument at a place, or null where there is none. */
        Argument at(int place) {
            return place >= 0 && place < count ? row[place] : null;
        }

        /** The first argument that is not used up, which it is then; null if there is none. */
        Argument next() {
            used++;
            return at(used - 1);
        }

        void drop() {
            count = 0;
            used = 0;
        }
    }

    /** The codes of a text, and where each begins. */
    private static final class Codes {
        // What codeAt found, since that tells a code that stands there from one that stands in.
        private int[] found = new int[0];
        private int[] places = new int[0];
        private int count = 0;

        int count() {
            return count;
        }

        int valueOf(int k) {
            return Utf8.codeOf(foundAt(k));
        }

        int placeOf(int k) {
            return k >= 0 && k < places.length ? places[k] : 0;
        }

        int bytesOf(int k) {
            return Utf8.bytesAt(foundAt(k));
        }

        void take(Bytes text) {
            widenTo(text.length());
            int place = 0;
            count = 0;
            while (place < text.length() && count < found.length && count < places.length) {
                found[count] = Utf8.codeAt(text, place);
                places[count] = place;
                place += bytesOf(count);
                count++;
            }
        }

        private int foundAt(int k) {
            return k >= 0 && k < found.length ? found[k] : Utf8.NO_CODE;
        }

        // Few objects ever decode a long text, so the rows become long only in those that do.
        private void widenTo(int most) {
            if (most > found.length) {
                found = new int[most];
                places = new int[most];
            }
        }
    }

    /** Codes as UTF-8. */
    private static final class Utf8 {
        static final int NO_CODE = -1;
        private static final int REPLACEMENT = 65533;

        static boolean isCode(long value) {
            return value >= 0 && value <= 1114111 && (value < 55296 || value > 57343);
        }

        /** The code that a number is, or the one that stands for what is none. */
        static int codeOf(long value) {
            return isCode(value) ? (int) value : REPLACEMENT;
        }

        static int bytesOf(int code) {
            if (code < 0x80) {
                return 1;
            }
            if (code < 0x800) {
                return 2;
            }
            return code < 0x10000 ? 3 : 4;
        }

        /** How many bytes there are to a place at which codeAt has found this. */
        static int bytesAt(int found) {
            return found == NO_CODE ? 1 : bytesOf(found);
        }

        /** The code that begins at a place, or NO_CODE. */
        static int codeAt(Bytes text, int place) {
            int lead = text.at(place);
            if (lead == Bytes.NONE || lead >= 0x80 && lead < 0xC0 || lead >= 0xF8) {
                return NO_CODE;
            }
            if (lead < 0x80) {
                return lead;
            }
            int bytes = lead < 0xE0 ? 2 : lead < 0xF0 ? 3 : 4;
            int code = lead & 0x7F >> bytes;
            for (int i = 1; i < bytes; i++) {
                int next = text.at(place + i);
                if (next < 0x80 || next >= 0xC0) {
                    return NO_CODE;
                }
                code = code << 6 | next & 0x3F;
            }
            return isCode(code) && bytesOf(code) == bytes ? code : NO_CODE;
        }

        static void put(int code, Bytes to) {
            int bytes = bytesOf(code);
            if (bytes == 1) {
                to.add(code);
                return;
            }
            to.add(0xF0 << 4 - bytes | code >> 6 * (bytes - 1));
            for (int i = bytes - 2; i >= 0; i--) {
                to.add(0x80 | code >> 6 * i & 0x3F);
            }
        }
    }

    /** Texts and codes between quotes. */
    private static final class Quoting {
        private static final int FIRST_WITH_LETTER = 7;
        private static final String LETTERS = "abtnvfr";

        static void putText(Bytes text, Bytes to) {
            to.add('"');
            int bytes = 1;
            for (int place = 0; place < text.length(); place += Math.max(1, bytes)) {
                bytes = Utf8.bytesAt(Utf8.codeAt(text, place));
                if (bytes > 1) {
                    to.addPart(text, place, place + bytes);
                } else {
                    putByte(text.at(place), '"', to);
                }
            }
            to.add('"');
        }

        static void putCode(int code, Bytes to) {
            to.add('\'');
            if (code < 128) {
                putByte(code, '\'', to);
            } else {
                Utf8.put(code, to);
            }
            to.add('\'');
        }

        /** Puts a code of one byte, or a byte at which no code begins. */
        private static void putByte(int value, int mark, Bytes to) {
            int letter = value - FIRST_WITH_LETTER;
            if (value == '\\' || value == mark) {
                to.add('\\');
                to.add(value);
            } else if (value >= 32 && value < 127) {
                to.add(value);
            } else if (letter >= 0 && letter < LETTERS.length()) {
                to.add('\\');
                to.add(LETTERS.charAt(letter));
            } else {
                to.add('\\');
                to.add('x');
                to.add(Numeral.digit(value >> 4 & 15, 'a'));
                to.add(Numeral.digit(value & 15, 'a'));
            }
        }
    }

    /** The digits of a number of 64 bits without sign. */
    private static final class Numeral {
        // The lowest digit first; in base 2 there are as many as bits.
        private final byte[] digits = new byte[64];
        private int count = 0;

        static int digit(int value, int ten) {
            return value < 10 ? '0' + value : ten + value - 10;
        }

        int count() {
            return count;
        }

        void setDecimal(long magnitude) {
            long rest = magnitude;
            for (count = 0; count < digits.length && (count == 0 || rest != 0); count++) {
                // Halved first, the number is one that division with sign takes rightly.
                long tenth = (rest >>> 1) / 5;
                digits[count] = (byte) ('0' + (rest - tenth * 10));
                rest = tenth;
            }
        }

        void setByBits(long magnitude, int bitsOfDigit, int ten) {
            long rest = magnitude;
            for (count = 0; count < digits.length && (count == 0 || rest != 0); count++) {
                digits[count] = (byte) digit((int) rest & (1 << bitsOfDigit) - 1, ten);
                rest >>>= bitsOfDigit;
            }
        }

        void putTo(Bytes to) {
            for (int i = Math.min(count, digits.length) - 1; i >= 0; i--) {
                to.add(digits[i]);
            }
        }
    }

    /** What stands in a format behind a %: flags, a width and the letter. */
    private static final class Directive {
        private static final int CLOSED = 0;
        private static final int IN_FLAGS = 1;
        private static final int IN_WIDTH = 2;
        private static final int AT_LETTER = 3;

        private int state = CLOSED;
        private boolean minus = false;
        private boolean plus = false;
        private boolean zero = false;
        private int width = 0;
        private int letter = 0;

        boolean isOpen() {
            return state != CLOSED;
        }

        void open() {
            state = IN_FLAGS;
            minus = false;
            plus = false;
            zero = false;
            width = 0;
        }

        void close() {
            state = CLOSED;
        }

        /** Takes the next byte; the letter closes the directive. */
        void take(int value) {
            if (state == IN_FLAGS && (value == '-' || value == '+' || value == '0')) {
                minus |= value == '-';
                plus |= value == '+';
                zero |= value == '0';
            } else if (state != AT_LETTER && value >= '0' && value <= '9') {
                width = width * 10 + value - '0';
                state = state == IN_FLAGS ? IN_WIDTH : AT_LETTER;
            } else {
                letter = value;
                state = CLOSED;
            }
        }

        int letter() {
            return letter;
        }

        int width() {
            return width;
        }

        boolean hasMinus() {
            return minus;
        }

        boolean hasPlus() {
            return plus;
        }

        /** How wide zeros make a number. */
        int widthByZeros() {
            return zero && !minus ? width : 0;
        }
    }

    /** Makes text of arguments, plain or by a directive. */
    private static final class Printer {
        private final Numeral numeral = new Numeral();

        void putPlain(Argument argument, Bytes to) {
            if (argument == null) {
                return;
            }
            Bytes content = argument.content();
            if (content != null) {
                to.addPart(content, 0, content.length());
            } else if (argument.isNumber()) {
                numeral.setDecimal(argument.magnitude());
                putNumeral(argument.isBelowZero(), false, 0, to);
            } else {
                to.addWord(argument.word());
            }
        }

        void putBy(Directive directive, Arguments arguments, Bytes to) {
            if (directive.letter() == '%') {
                to.add('%');
                return;
            }
            int from = to.length();
            if (putArgument(directive, arguments.next(), to)) {
                to.pad(from, directive.width(), directive.hasMinus());
            } else {
                to.addWord("%!");
                to.add(directive.letter());
            }
        }

        /** False, and nothing is put, if there is no argument or the letter is not for it. */
        private boolean putArgument(Directive directive, Argument argument, Bytes to) {
            if (argument == null) {
                return false;
            }
            int letter = directive.letter();
            if (letter == 'v' || letter == 't' && argument.isTruth()) {
                putPlain(argument, to);
                return true;
            }
            Bytes content = argument.content();
            if (content != null) {
                return putText(letter, content, to);
            }
            return argument.isNumber() && putNumber(directive, argument, to);
        }

        private static boolean putText(int letter, Bytes content, Bytes to) {
            switch (letter) {
                case 's':
                    to.addPart(content, 0, content.length());
                    return true;
                case 'q':
                    Quoting.putText(content, to);
                    return true;
                case 'x':
                    putHex(content, 'a', to);
                    return true;
                case 'X':
                    putHex(content, 'A', to);
                    return true;
                default:
                    return false;
            }
        }

        private static void putHex(Bytes content, int ten, Bytes to) {
            for (int i = 0; i < content.length(); i++) {
                to.add(Numeral.digit(content.at(i) >> 4, ten));
                to.add(Numeral.digit(content.at(i) & 15, ten));
            }
        }

        private boolean putNumber(Directive directive, Argument argument, Bytes to) {
            int letter = directive.letter();
            if (letter == 'c') {
                Utf8.put(Utf8.codeOf(argument.value()), to);
                return true;
            }
            if (letter == 'q') {
                Quoting.putCode(Utf8.codeOf(argument.value()), to);
                return true;
            }
            if (!setNumeral(letter, argument.magnitude())) {
                return false;
            }
            putNumeral(argument.isBelowZero(), directive.hasPlus(), directive.widthByZeros(), to);
            return true;
        }

        /** False if the letter names no base. */
        private boolean setNumeral(int letter, long magnitude) {
            switch (letter) {
                case 'd':
                    numeral.setDecimal(magnitude);
                    return true;
                case 'x':
                    numeral.setByBits(magnitude, 4, 'a');
                    return true;
                case 'X':
                    numeral.setByBits(magnitude, 4, 'A');
                    return true;
                case 'b':
                    numeral.setByBits(magnitude, 1, 'a');
                    return true;
                case 'o':
                    numeral.setByBits(magnitude, 3, 'a');
                    return true;
                default:
                    return false;
            }
        }

        /** Puts the numeral that is set, behind its sign and as many zeros as the width asks for. */
        private void putNumeral(boolean isBelowZero, boolean plus, int width, Bytes to) {
            boolean hasSign = isBelowZero || plus;
            if (hasSign) {
                to.add(isBelowZero ? '-' : '+');
            }
            to.addTimes('0', width - numeral.count() - (hasSign ? 1 : 0));
            numeral.putTo(to);
        }
    }
}
