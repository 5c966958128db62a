/** Promise 9 at its edges: what a format makes of numbers, flags, widths and letters. */
final class FormatEdgesTest {
    private static final Checks.Unsigned UNSIGNED_ZERO = new Checks.Unsigned(0);
    private static final Checks.Unsigned HALF = new Checks.Unsigned(Long.MAX_VALUE);
    private static final Checks.Unsigned TOP_BIT = new Checks.Unsigned(Long.MIN_VALUE);
    private static final Checks.Unsigned ALL_BITS = new Checks.Unsigned(-1);
    private static final Checks.Thing NIL = new Checks.Thing(-1);
    private static final Checks.Thing GATE = new Checks.Thing(8);
    private static final String NONE = "\ufffd";

    public static void main(String[] args) {
        numbersWithSign();
        numbersWithoutSign();
        plusAtZero();
        codesOfNumbers();
        quotedNumbers();
        textsInBase16();
        emptyFormat();
        formatThatEnds();
        flags();
        widthsOfDigits();
        widthsAgainstLengths();
        zerosBehindTheSign();
        noArgument();
        moreLettersThanArguments();
        lettersThatAreNone();
        lettersNotForTheArgument();
        percents();
        argumentsAreNoneThen();
        whatFormatLeaves();
        Checks.finish("FormatEdgesTest");
    }

    /** The number by d x X b o, plainly and with the flag +. */
    private static void dueInBases(Object number, String sign, String... magnitudes) {
        String[] letters = {"d", "x", "X", "b", "o"};
        for (int i = 0; i < letters.length; i++) {
            String made = sign + magnitudes[i];
            Checks.dueFormat("%" + letters[i], made, number);
            String plus = sign.isEmpty() ? "+" : sign;
            Checks.dueFormat("%+" + letters[i], plus + magnitudes[i], number);
            Checks.dueFormat("%099" + letters[i], sign + "0".repeat(99 - made.length()) + magnitudes[i], number);
            Checks.dueFormat("%99" + letters[i], " ".repeat(99 - made.length()) + made, number);
            Checks.dueFormat("%-099" + letters[i], made + " ".repeat(99 - made.length()), number);
        }
        Checks.dueFormat("%+099v", " ".repeat(99 - sign.length() - magnitudes[0].length()) + sign + magnitudes[0], number);
    }

    private static void numbersWithSign() {
        Checks.promise(9, "the least number of 64 bits with sign");
        dueInBases(Long.MIN_VALUE, "-", "9223372036854775808", "8000000000000000", "8000000000000000",
                "1" + "0".repeat(63), "1000000000000000000000");
        dueInBases(Long.MIN_VALUE + 1, "-", "9223372036854775807", "7fffffffffffffff", "7FFFFFFFFFFFFFFF",
                "1".repeat(63), "777777777777777777777");
        Checks.promise(9, "the greatest number of 64 bits with sign");
        dueInBases(Long.MAX_VALUE, "", "9223372036854775807", "7fffffffffffffff", "7FFFFFFFFFFFFFFF",
                "1".repeat(63), "777777777777777777777");
        Checks.promise(9, "numbers about 0");
        dueInBases(0L, "", "0", "0", "0", "0", "0");
        dueInBases(-1L, "-", "1", "1", "1", "1", "1");
        dueInBases(1L, "", "1", "1", "1", "1", "1");
    }

    private static void numbersWithoutSign() {
        Checks.promise(9, "the least number of 64 bits without sign");
        dueInBases(UNSIGNED_ZERO, "", "0", "0", "0", "0", "0");
        Checks.promise(9, "the greatest number of 64 bits without sign");
        dueInBases(ALL_BITS, "", "18446744073709551615", "ffffffffffffffff", "FFFFFFFFFFFFFFFF",
                "1".repeat(64), "1777777777777777777777");
        Checks.promise(9, "numbers without sign about 2^63");
        dueInBases(HALF, "", "9223372036854775807", "7fffffffffffffff", "7FFFFFFFFFFFFFFF",
                "1".repeat(63), "777777777777777777777");
        dueInBases(TOP_BIT, "", "9223372036854775808", "8000000000000000", "8000000000000000",
                "1" + "0".repeat(63), "1000000000000000000000");
    }

    private static void plusAtZero() {
        Checks.promise(9, "behind a + when that flag stands and it is not below 0");
        Checks.dueFormat("%+d %+d %+d", "+0 -1 +1", 0, -1, 1);
        Checks.promise(9, "+ counts for d x X b o of numbers alone");
        Checks.dueFormat("%+v|%+c|%+q|%+s|%+x|%+X|%+q|%+t|%+v|%+v", "0|A|'A'|a|61|61|\"a\"|true|nil|(gate)",
                0, 65, 65, "a", "a", "a", "a", true, NIL, GATE);
    }

    private static void codesOfNumbers() {
        Checks.promise(9, "c of a number: the code as UTF-8, at the edges of its lengths");
        Checks.dueFormat("%c", Checks.bytes(0), 0);
        Checks.dueFormat("%c", Checks.bytes(0), UNSIGNED_ZERO);
        Checks.dueFormat("%c", Checks.bytes(0x7f), 127);
        Checks.dueFormat("%c", Checks.bytes(0xc2, 0x80), 128);
        Checks.dueFormat("%c", Checks.bytes(0xdf, 0xbf), 2047);
        Checks.dueFormat("%c", Checks.bytes(0xe0, 0xa0, 0x80), 2048);
        Checks.dueFormat("%c", Checks.bytes(0xed, 0x9f, 0xbf), 55295);
        Checks.dueFormat("%c", Checks.bytes(0xee, 0x80, 0x80), 57344);
        Checks.dueFormat("%c", Checks.bytes(0xef, 0xbf, 0xbf), 65535);
        Checks.dueFormat("%c", Checks.bytes(0xf0, 0x90, 0x80, 0x80), 65536);
        Checks.dueFormat("%c", Checks.bytes(0xf4, 0x8f, 0xbf, 0xbf), 1114111);
        Checks.dueFormat("%c", Checks.bytes(0xf4, 0x8f, 0xbf, 0xbf), new Checks.Unsigned(1114111));
        Checks.promise(9, "c of a number: 65533 for what is none");
        for (Object none : noCodes()) {
            Checks.dueFormat("%c", NONE, none);
            Checks.dueFormat("%04c|", " " + NONE + "|", none);
        }
    }

    private static Object[] noCodes() {
        return new Object[] {-1, 55296, 57343, 1114112, Long.MIN_VALUE, Long.MAX_VALUE, ALL_BITS, TOP_BIT,
            new Checks.Unsigned(55296), new Checks.Unsigned(1114112), 4294967296L, 4294967296L + 65,
            Long.MIN_VALUE + 65, new Checks.Unsigned(Long.MIN_VALUE + 65), (long) Integer.MIN_VALUE};
    }

    private static void quotedNumbers() {
        Checks.promise(9, "q of a number: what is no code as 65533");
        for (Object none : noCodes()) {
            Checks.dueFormat("%q", "'" + NONE + "'", none);
        }
        Checks.dueFormat("%q%q", "'" + NONE + "''" + NONE + "'", 65533, new Checks.Unsigned(65533));
        Checks.promise(9, "q of a number: ' behind a \\ and \" as it is");
        Checks.dueFormat("%q%q%q", "'\\'''\"''\\\\'", '\'' + 0, '"' + 0, '\\' + 0);
        Checks.promise(9, "q of a number: as in quoting");
        String letters = "abtnvfr";
        for (int code = 0; code < 128; code++) {
            String want = Character.toString(code);
            if (code >= 7 && code <= 13) {
                want = "\\" + letters.charAt(code - 7);
            } else if (code < 32 || code == 127) {
                want = String.format("\\x%02x", code);
            } else if (code == '\\' || code == '\'') {
                want = "\\" + want;
            }
            Checks.dueFormat("%q", "'" + want + "'", code);
            Checks.dueFormat("%q", "'" + want + "'", new Checks.Unsigned(code));
        }
        for (int code : new int[] {128, 159, 160, 2047, 2048, 55295, 57344, 65535, 65536, 1114111}) {
            Checks.dueFormat("%q", "'" + Character.toString(code) + "'", code);
        }
    }

    private static void textsInBase16() {
        Checks.promise(9, "x X of a text: two digits of base 16 for each byte");
        for (int value = 0; value < 256; value++) {
            String two = String.format("%02x", value);
            Checks.dueFormat("%x", two, (Object) Checks.bytes(value));
            Checks.dueFormat("%X", two.toUpperCase(), (Object) Checks.bytes(value));
            Checks.dueFormat("%x", "61" + two + two, (Object) Checks.bytes('a', value, value));
        }
        Checks.dueFormat("%x|%X|", "||", "", "");
    }

    private static void emptyFormat() {
        Checks.promise(9, "a format that is empty");
        Checks.dueFormat("", "");
        Checks.dueFormat("", "", 1, "a", true);
        TextForge forge = new TextForge();
        forge.encode(65);
        forge.truth(true);
        Checks.due("format of no text behind a result", forge.format(), 0);
        Checks.dueResult("format of no text behind a result", forge, "");
        Checks.due("arguments behind an empty format", forge.truth(true), 1);
    }

    private static void formatThatEnds() {
        Checks.promise(9, "when there is no letter (the text ends): %! without flags and width");
        for (String end : new String[] {"%", "%-", "%+", "%0", "%00", "%-+0", "%5", "%9", "%10", "%99", "%05", "%-+099"}) {
            Checks.dueFormat(end, "%!");
            Checks.dueFormat(end, "%!", 7);
            Checks.dueFormat("a%d" + end, "a7%!", 7);
            Checks.dueFormat("%d" + end, "7%!", 7, 8);
            Checks.dueFormat("%%" + end, "%%!", 7);
        }
        TextForge forge = Checks.fed(Checks.with(1, 2), "%d%-9");
        forge.format();
        Checks.due("arguments behind a format that ends", forge.number(3, true), 1);
        Checks.fed(forge, "9d%d").format();
        Checks.dueResult("the next format begins anew", forge, "9d3");
    }

    private static void flags() {
        Checks.promise(9, "any number of flags");
        Checks.dueFormat("%d|%-d|%+d|%0d|%-+0d", "7|7|+7|7|+7", 7, 7, 7, 7, 7);
        Checks.dueFormat("%" + "-+0".repeat(50) + "4d|", "+7  |", 7);
        Checks.dueFormat("%" + "0".repeat(200) + "4d|", "0007|", 7);
        Checks.dueFormat("%" + "+".repeat(200) + "4d|", "  +7|", 7);
        Checks.dueFormat("%" + "-".repeat(200) + "4d|", "7   |", 7);
        Checks.dueFormat("%-04d|%0-4d|%-4d|%0-+4d|%+-04d|", "7   |7   |7   |+7  |+7  |", 7, 7, 7, 7, 7);
        Checks.dueFormat("%+04d|%0+4d|%04d", "+007|+007|-007", 7, 7, -7);
        Checks.promise(9, "a flag behind the width is the letter");
        Checks.dueFormat("%4-d|%4+d|%44-d|%44+d", "%!-d|%!+d|%!-d|%!+d", 7, 7, 7, 7);
        Checks.dueFormat("%4-%d", "%!-8", 7, 8);
        Checks.promise(9, "flags are those of one letter alone");
        Checks.dueFormat("%-+03d|%3d|%+d|%d|%03d|%3d", "+7 |  7|+7|7|007|  7", 7, 7, 7, 7, 7, 7);
    }

    private static void widthsOfDigits() {
        Checks.promise(9, "a width of no, one or two digits");
        Checks.dueFormat("%d|%1d|%2d|%9d|%10d|", "7|7| 7|        7|         7|", 7, 7, 7, 7, 7);
        for (int width = 1; width <= 99; width++) {
            Checks.dueFormat("%" + width + "d", " ".repeat(width - 1) + "7", 7);
            Checks.dueFormat("%-" + width + "d", "7" + " ".repeat(width - 1), 7);
            Checks.dueFormat("%0" + width + "d", "0".repeat(width - 1) + "7", 7);
            Checks.dueFormat("%0" + width + "d", width < 2 ? "-7" : "-" + "0".repeat(width - 2) + "7", -7);
        }
        Checks.promise(9, "a third digit is the letter");
        for (int digit = 0; digit < 10; digit++) {
            Checks.dueFormat("%10" + digit + "d", "%!" + digit + "d", 7);
            Checks.dueFormat("%-099" + digit + "%d", "%!" + digit + "8", 7, 8);
        }
        Checks.promise(9, "the first digit of a width is no 0");
        Checks.dueFormat("%00d|%01d|%001d|%0010d", "7|7|7|0000000007", 7, 7, 7, 7);
        Checks.dueFormat("%0123d", "%!3d", 7);
        Checks.promise(9, "a width is that of one letter alone");
        Checks.dueFormat("%9d|%d|%s", "        7|7|a", 7, 7, "a");
    }

    private static void widthsAgainstLengths() {
        Checks.promise(9, "what is shorter than the width gets blanks");
        Object[] arguments = {123, "abc", new byte[] {'a', 'b', 'c'}, NIL};
        for (Object argument : arguments) {
            String made = argument instanceof Integer ? "123" : argument == NIL ? "nil" : "abc";
            Checks.dueFormat("%2v|", made + "|", argument);
            Checks.dueFormat("%3v|", made + "|", argument);
            Checks.dueFormat("%4v|", " " + made + "|", argument);
            Checks.dueFormat("%-2v|", made + "|", argument);
            Checks.dueFormat("%-3v|", made + "|", argument);
            Checks.dueFormat("%-4v|", made + " |", argument);
            Checks.dueFormat("%04v|", " " + made + "|", argument);
        }
        Checks.dueFormat("%4d|%3d|%-4d|%-3d|", " -12|-12|-12 |-12|", -12, -12, -12, -12);
        Checks.dueFormat("%+4d|%+3d|%+-4d|%+-3d|", " +12|+12|+12 |+12|", 12, 12, 12, 12);
        Checks.dueFormat("%5t|%6t|%-5t|%-6t|", "false| false|false|false |", false, false, false, false);
        Checks.dueFormat("%3q|%4q|%-4q|%4q|%5q|", "'A'| 'A'|'A' |\"ab\"| \"ab\"|", 65, 65, 65, "ab", "ab");
        Checks.dueFormat("%4x|%5X|%-5x|", "6162| 6162|6162 |", "ab", "ab", "ab");
        Checks.promise(9, "of an empty text");
        Checks.dueFormat("%s|%1s|%-2s|%02s|%3x|%3q|%2q|", "| |  |  |   | \"\"|\"\"|", "", "", "", "", "", "", "");
        Checks.dueFormat("%99s", " ".repeat(99), "");
        Checks.promise(9, "a width counts bytes");
        Checks.dueFormat("%2s|%3s|%4c|%3c|", "\u00e9| \u00e9| \u20ac|\u20ac|", "\u00e9", "\u00e9", 8364, 8364);
    }

    private static void zerosBehindTheSign() {
        Checks.promise(9, "with the flag 0 and no - , d x X b o of numbers get 0 behind the sign");
        for (String letter : new String[] {"d", "x", "X", "b", "o"}) {
            Checks.dueFormat("%01" + letter + "|%02" + letter + "|%03" + letter, "-1|-1|-01", -1, -1, -1);
            Checks.dueFormat("%+01" + letter + "|%+02" + letter + "|%+03" + letter, "+1|+1|+01", 1, 1, 1);
            Checks.dueFormat("%01" + letter + "|%02" + letter + "|%0" + letter, "1|01|1", 1, 1, 1);
            Checks.dueFormat("%-03" + letter + "|%0-3" + letter + "|", "1  |-1 |", 1, -1);
        }
        Checks.promise(9, "all but d x X b o of numbers get blanks with the flag 0 too");
        Checks.dueFormat("%03v|%02c|%05q|%03s|%04x|%04X|%05q|%06t|%04v|%08v",
                " -1| A|  'A'|  a|  61|  61|  \"a\"|  true| nil|  (gate)",
                -1, 65, 65, "a", "a", "a", "a", true, NIL, GATE);
    }

    private static void noArgument() {
        Checks.promise(9, "when there is no argument: %! and the letter, without flags and width");
        for (int letter = 0; letter < 256; letter++) {
            if ("-+0123456789%".indexOf(letter) < 0) {
                byte[] want = Checks.bytes('%', '!', letter);
                Checks.dueFormat(Checks.bytes('%', letter), want);
                Checks.dueFormat(Checks.bytes('%', '-', '+', '0', '9', '9', letter), want);
            }
        }
    }

    private static void moreLettersThanArguments() {
        Checks.promise(9, "more letters than there are arguments");
        Checks.dueFormat("%d%d", "1%!d", 1);
        Checks.dueFormat("%v,%s,%q,%t,%x", "1,%!s,%!q,%!t,%!x", 1);
        Object[] sixteen = {1, 2, 3, 4, 5, 6, 7, 8, 9, 10, 11, 12, 13, 14, 15, 16};
        Checks.dueFormat("%d".repeat(16), "12345678910111213141516", sixteen);
        Checks.dueFormat("%d".repeat(17), "12345678910111213141516%!d", sixteen);
        Checks.dueFormat("%d".repeat(40), "12345678910111213141516" + "%!d".repeat(24), sixteen);
        Checks.dueFormat("%v".repeat(100), "%!v".repeat(100));
        Checks.promise(9, "fewer letters than there are arguments");
        Checks.dueFormat("%d", "1", sixteen);
    }

    private static void lettersThatAreNone() {
        Checks.promise(9, "the letter is none of these: %! and the letter; the argument is used up");
        for (int letter = 0; letter < 256; letter++) {
            if ("-+0123456789%dxXbocsqtv".indexOf(letter) < 0) {
                for (Object argument : new Object[] {7, ALL_BITS, true, "a", NIL, GATE}) {
                    Checks.dueFormat(Checks.bytes('%', letter, '%', 'd'), Checks.bytes('%', '!', letter, '8'), argument, 8);
                }
                Checks.dueFormat(Checks.bytes('%', '-', '0', '2', '0', letter, '%', 'd'),
                        Checks.bytes('%', '!', letter, '8'), 7, 8);
            }
        }
    }

    private static void dueNotFor(String letters, Object argument) {
        for (char letter : letters.toCharArray()) {
            Checks.dueFormat("%" + letter + "%d", "%!" + letter + "8", argument, 8);
            Checks.dueFormat("%+099" + letter + "|%d", "%!" + letter + "|8", argument, 8);
        }
    }

    private static void lettersNotForTheArgument() {
        Checks.promise(9, "the letter is not for this argument: %! and the letter; the argument is used up");
        dueNotFor("st", 7);
        dueNotFor("st", ALL_BITS);
        dueNotFor("st", 0);
        dueNotFor("dboct", "a");
        dueNotFor("dboct", "");
        dueNotFor("dboct", "1");
        dueNotFor("dxXbocsq", true);
        dueNotFor("dxXbocsq", false);
        dueNotFor("dxXbocsqt", NIL);
        for (int sort = 0; sort <= 8; sort++) {
            dueNotFor("dxXbocsqt", new Checks.Thing(sort));
        }
    }

    private static void percents() {
        Checks.promise(9, "%% only a %");
        Checks.dueFormat("%%", "%");
        Checks.dueFormat("%%%%", "%%");
        Checks.dueFormat("%%%", "%%!");
        Checks.dueFormat("%%%d%%", "%7%", 7);
        Checks.dueFormat("%%d", "%d", 7);
    }

    private static void argumentsAreNoneThen() {
        Checks.promise(9, "the arguments are none then");
        for (String format : new String[] {"", "a", "%", "%d", "%d%d%d", "%z"}) {
            TextForge forge = Checks.fed(Checks.with(1, 2), format);
            forge.format();
            Checks.due("number behind format " + format, forge.number(3, true), 1);
        }
        TextForge forge = new TextForge();
        for (int i = 0; i < 16; i++) {
            forge.truth(true);
        }
        Checks.fed(forge, "%t").format();
        Checks.due("number behind a format with sixteen", forge.number(3, true), 1);
        Checks.fed(forge, "%d%d").format();
        Checks.dueResult("what is left over is gone", forge, "3%!d");
    }

    private static void whatFormatLeaves() {
        Checks.promise(9, "the text that is fed is the format, and used up");
        Filled filled = new Filled(3);
        Checks.due("format", filled.forge.format(), 4);
        Checks.dueResult("format", filled.forge, "kept");
        Checks.due("end(1) behind format", filled.forge.end(1), false);
        filled.dueNumber("format");
        filled.dueCodes("format");
        Checks.due("format once more", filled.forge.format(), 0);
        Checks.dueResult("format once more", filled.forge, "");
    }
}
