import java.math.BigInteger;
import java.nio.ByteBuffer;
import java.nio.CharBuffer;
import java.nio.charset.CharacterCodingException;
import java.nio.charset.StandardCharsets;
import java.util.ArrayList;
import java.util.Arrays;
import java.util.List;
import java.util.NoSuchElementException;
import java.util.regex.Matcher;
import java.util.regex.Pattern;

/**
 * The document once more, written with the Java library and in another way than the class, so that
 * random runs of both can be compared. Bytes are kept as the characters 0 .. 255 of a String.
 */
final class Model {
    private static final Pattern DIRECTIVE = Pattern.compile("%([-+0]*)([1-9][0-9]?)?(.)?", Pattern.DOTALL);
    private static final String[] SORTS = {"ptr", "func", "slice", "map", "chan", "interface", "struct", "array", "gate"};

    private String fed = "";
    private String result = "";
    private final List<Object> arguments = new ArrayList<>();
    private List<int[]> codes = new ArrayList<>();
    private long parsed = 0;

    private record Sort(int number) {
    }

    boolean feed(int a, int b, int c, int d, int e) {
        byte[] more = ByteBuffer.allocate(20).putInt(a).putInt(b).putInt(c).putInt(d).putInt(e).array();
        if (fed.length() > 4096 - 20) {
            return false;
        }
        fed += latin(more);
        return true;
    }

    boolean end(int n) {
        if (n < 0 || n > fed.length()) {
            return false;
        }
        fed = fed.substring(0, n);
        return true;
    }

    private int argument(Object argument) {
        if (arguments.size() == 16) {
            throw new IllegalStateException();
        }
        arguments.add(argument);
        return arguments.size();
    }

    int number(long v, boolean sign) {
        return argument(sign ? BigInteger.valueOf(v) : new BigInteger(Long.toUnsignedString(v)));
    }

    int truth(boolean v) {
        return argument(v);
    }

    int text() {
        int count = argument(fed);
        fed = "";
        return count;
    }

    int thing(int sort) {
        if (sort < -1 || sort > 8) {
            throw new IllegalArgumentException();
        }
        return argument(new Sort(sort));
    }

    void clear() {
        arguments.clear();
    }

    int format() {
        StringBuilder out = new StringBuilder();
        Matcher matcher = DIRECTIVE.matcher(fed);
        List<Object> left = new ArrayList<>(arguments);
        int at = 0;
        while (matcher.find(at)) {
            out.append(fed, at, matcher.start());
            out.append(directive(matcher, left));
            at = matcher.end();
        }
        out.append(fed.substring(at));
        fed = "";
        arguments.clear();
        return keep(out.toString());
    }

    private static String directive(Matcher matcher, List<Object> left) {
        String letter = matcher.group(3);
        if (letter == null) {
            return "%!";
        }
        if (letter.equals("%")) {
            return "%";
        }
        Object argument = left.isEmpty() ? null : left.remove(0);
        String flags = matcher.group(1);
        int width = matcher.group(2) == null ? 0 : Integer.parseInt(matcher.group(2));
        String made = argument == null ? null : made(letter.charAt(0), flags, width, argument);
        if (made == null) {
            return "%!" + letter;
        }
        String blanks = " ".repeat(Math.max(0, width - made.length()));
        return flags.contains("-") ? made + blanks : blanks + made;
    }

    private static String made(char letter, String flags, int width, Object argument) {
        if (letter == 'v') {
            return plain(argument);
        }
        if (argument instanceof Boolean) {
            return letter == 't' ? plain(argument) : null;
        }
        if (argument instanceof String text) {
            return switch (letter) {
                case 's' -> text;
                case 'q' -> quoted(text, '"');
                case 'x' -> hex(text);
                case 'X' -> hex(text).toUpperCase();
                default -> null;
            };
        }
        if (argument instanceof BigInteger number) {
            return switch (letter) {
                case 'd' -> numeral(number, 10, flags, width);
                case 'x' -> numeral(number, 16, flags, width);
                case 'X' -> numeral(number, 16, flags, width).toUpperCase();
                case 'b' -> numeral(number, 2, flags, width);
                case 'o' -> numeral(number, 8, flags, width);
                case 'c' -> utf8(number);
                case 'q' -> quoted(utf8(number), '\'');
                default -> null;
            };
        }
        return null;
    }

    private static String numeral(BigInteger number, int base, String flags, int width) {
        String sign = number.signum() < 0 ? "-" : flags.contains("+") ? "+" : "";
        String digits = number.abs().toString(base);
        int zeros = flags.contains("0") && !flags.contains("-") ? width - sign.length() - digits.length() : 0;
        return sign + "0".repeat(Math.max(0, zeros)) + digits;
    }

    private static String hex(String text) {
        StringBuilder out = new StringBuilder();
        text.chars().forEach(b -> out.append(String.format("%02x", b)));
        return out.toString();
    }

    private static String plain(Object argument) {
        if (argument instanceof Sort sort) {
            return sort.number() < 0 ? "nil" : "(" + SORTS[sort.number()] + ")";
        }
        return argument.toString();
    }

    int join(boolean blanks) {
        String joined = String.join(blanks ? " " : "", arguments.stream().map(Model::plain).toList());
        arguments.clear();
        return keep(joined);
    }

    int quote() {
        String quoted = quoted(fed, '"');
        fed = "";
        return keep(quoted);
    }

    private static String quoted(String text, char mark) {
        StringBuilder out = new StringBuilder().append(mark);
        for (int[] place : places(text)) {
            String part = text.substring(place[1], place[1] + place[2]);
            char first = part.charAt(0);
            int letter = "\u0007\b\t\n\u000b\f\r".indexOf(first);
            if (first == '\\' || first == mark) {
                out.append('\\').append(first);
            } else if (letter >= 0) {
                out.append('\\').append("abtnvfr".charAt(letter));
            } else if (part.length() > 1 || first >= 32 && first < 127) {
                out.append(part);
            } else {
                out.append("\\x").append(hex(part));
            }
        }
        return out.append(mark).toString();
    }

    boolean parse(int base) {
        if (base < 2 || base > 36) {
            throw new IllegalArgumentException();
        }
        String text = fed;
        fed = "";
        parsed = 0;
        boolean ascii = text.chars().allMatch(c -> c < 128);
        try {
            parsed = ascii ? Long.parseLong(text, base) : 0;
        } catch (NumberFormatException e) {
            return false;
        }
        return ascii;
    }

    long parsed() {
        return parsed;
    }

    int encode(int code) {
        return keep(utf8(BigInteger.valueOf(code)));
    }

    private static String utf8(BigInteger number) {
        boolean within = number.signum() >= 0 && number.compareTo(BigInteger.valueOf(1114111)) <= 0;
        int code = within ? number.intValue() : 65533;
        code = code >= 55296 && code <= 57343 ? 65533 : code;
        return latin(new String(Character.toChars(code)).getBytes(StandardCharsets.UTF_8));
    }

    int decode() {
        codes = places(fed);
        fed = "";
        return codes.size();
    }

    /** Code, place and bytes of every place of a text. */
    private static List<int[]> places(String text) {
        byte[] row = text.getBytes(StandardCharsets.ISO_8859_1);
        List<int[]> places = new ArrayList<>();
        for (int at = 0; at < row.length; at += places.get(places.size() - 1)[2]) {
            int[] found = {65533, at, 1};
            for (int bytes = 1; bytes <= 4 && at + bytes <= row.length; bytes++) {
                int code = only(Arrays.copyOfRange(row, at, at + bytes));
                if (code >= 0) {
                    found = new int[] {code, at, bytes};
                    break;
                }
            }
            places.add(found);
        }
        return places;
    }

    /** The code that these bytes are, if they are one and nothing more, or -1. */
    private static int only(byte[] row) {
        try {
            CharBuffer chars = StandardCharsets.UTF_8.newDecoder().decode(ByteBuffer.wrap(row));
            String text = chars.toString();
            return text.codePointCount(0, text.length()) == 1 ? text.codePointAt(0) : -1;
        } catch (CharacterCodingException e) {
            return -1;
        }
    }

    int code(int k, int what) {
        if (k < 0 || k >= codes.size() || what < 0 || what > 2) {
            throw new NoSuchElementException();
        }
        return codes.get(k)[what];
    }

    int size() {
        return result.length();
    }

    int byteOf(int i) {
        if (i < 0 || i >= result.length()) {
            throw new NoSuchElementException();
        }
        return result.charAt(i);
    }

    private int keep(String made) {
        result = made.substring(0, Math.min(4096, made.length()));
        return result.length();
    }

    private static String latin(byte[] row) {
        return new String(row, StandardCharsets.ISO_8859_1);
    }
}
