/** Promise 9: format. */
final class FormatTest {
    private static final Checks.Unsigned ALL_BITS = new Checks.Unsigned(-1);
    private static final Checks.Unsigned TOP_BIT = new Checks.Unsigned(Long.MIN_VALUE);
    private static final Checks.Thing NIL = new Checks.Thing(-1);

    public static void main(String[] args) {
        bytesAsTheyAre();
        basesOfNumbers();
        plusFlag();
        codesOfNumbers();
        quotedNumbers();
        texts();
        truthsAndPlain();
        widths();
        zeros();
        flagsAndWidthsAtTheirEdges();
        whatIsWrong();
        argumentsInTheirRow();
        percents();
        cutResults();
        argumentsAreNoneThen();
        Checks.finish("FormatTest");
    }

    private static void due(String format, byte[] want, Object... arguments) {
        due(Checks.bytes(format), want, arguments);
    }

    private static void due(String format, String want, Object... arguments) {
        due(format, Checks.bytes(want), arguments);
    }

    private static void due(byte[] format, byte[] want, Object... arguments) {
        TextForge forge = new TextForge();
        for (Object argument : arguments) {
            Checks.give(forge, argument);
        }
        Checks.fed(forge, format);
        String what = "format " + new String(format, java.nio.charset.StandardCharsets.ISO_8859_1);
        Checks.due(what, forge.format(), want.length);
        Checks.dueResult(what, forge, want);
    }

    private static void bytesAsTheyAre() {
        due("", "");
        due("no directive, \u00e9\n", "no directive, \u00e9\n");
        due(Checks.bytes(0, 255, 128, 10), Checks.bytes(0, 255, 128, 10), 1);
    }

    private static void basesOfNumbers() {
        due("%d %x %X %b %o", "255 ff FF 11111111 377", 255, 255, 255, 255, 255);
        due("%d %x %X %b %o", "-171 -ab -AB -10101011 -253", -171, -171, -171, -171, -171);
        due("%d %x %X %b %o", "0 0 0 0 0", 0, 0, 0, 0, 0);
        due("%d %x %o", "-9223372036854775808 -8000000000000000 -1000000000000000000000",
                Long.MIN_VALUE, Long.MIN_VALUE, Long.MIN_VALUE);
        due("%b", "-1" + "0".repeat(63), Long.MIN_VALUE);
        due("%d %X %o", "9223372036854775807 7FFFFFFFFFFFFFFF 777777777777777777777",
                Long.MAX_VALUE, Long.MAX_VALUE, Long.MAX_VALUE);
        due("%d %x %X %o", "18446744073709551615 ffffffffffffffff FFFFFFFFFFFFFFFF 1777777777777777777777",
                ALL_BITS, ALL_BITS, ALL_BITS, ALL_BITS);
        due("%b", "1".repeat(64), ALL_BITS);
        due("%d", "9223372036854775808", TOP_BIT);
    }

    private static void plusFlag() {
        due("%+d %+x %+X %+b %+o", "+10 +a +A +1010 +12", 10, 10, 10, 10, 10);
        due("%+d %+d %+d", "+0 -1 +18446744073709551615", 0, -1, ALL_BITS);
        due("%+v %+s %+x %+t %+c %+q %+q", "7 ab 6162 true A 'A' \"A\"", 7, "ab", "ab", true, 65, 65, "A");
    }

    private static void codesOfNumbers() {
        due("%c%c%c", Checks.bytes(0, 65, 127), 0, 65, 127);
        due("%c%c", Checks.bytes(0xC2, 0x80, 0xDF, 0xBF), 128, 2047);
        due("%c%c", Checks.bytes(0xE0, 0xA0, 0x80, 0xEF, 0xBF, 0xBF), 2048, 65535);
        due("%c%c", Checks.bytes(0xF0, 0x90, 0x80, 0x80, 0xF4, 0x8F, 0xBF, 0xBF), 65536, 1114111);
        due("%c%c", Checks.bytes(0xED, 0x9F, 0xBF, 0xEE, 0x80, 0x80), 55295, 57344);
        String none = "\ufffd";
        due("%c%c%c%c", none.repeat(4), 55296, 57343, 1114112, -1);
        due("%c%c%c%c", none.repeat(4), ALL_BITS, TOP_BIT, 4294967296L + 65, Long.MIN_VALUE + 65);
        due("%4c|%-4c|%04c", "  \u00e9|\u00e9  |   A", 233, 233, 65);
    }

    private static void quotedNumbers() {
        due("%q%q%q", "'A''\u00e9''\u20ac'", 65, 233, 8364);
        due("%q%q%q", "'\\'''\"''\\\\'", 39, 34, 92);
        due("%q%q%q%q%q%q%q", "'\\a''\\b''\\t''\\n''\\v''\\f''\\r'", 7, 8, 9, 10, 11, 12, 13);
        due("%q%q%q%q%q%q", "'\\x00''\\x06''\\x0e''\\x1f'' ''\\x7f'", 0, 6, 14, 31, 32, 127);
        due("%q%q", Checks.bytes(39, 0xC2, 0x80, 39, 39, 126, 39), 128, 126);
        due("%q%q%q%q", "'\ufffd'".repeat(4), -1, 55296, 1114112, ALL_BITS);
        due("%6q|%-6q|%06q", "   'A'|'A'   |   'A'", 65, 65, 65);
    }

    private static void texts() {
        due("%s|%q|%x|%X", "a\"\u00e9|\"a\\\"\u00e9\"|6122c3a9|6122C3A9", "a\"\u00e9", "a\"\u00e9", "a\"\u00e9", "a\"\u00e9");
        due("%s|%q|%x|%X|%v", "|\"\"|||", "", "", "", "", "");
        due("%x", "00ff0a7f", (Object) Checks.bytes(0, 255, 10, 127));
        due("%s", Checks.bytes(255, 37, 0), (Object) Checks.bytes(255, 37, 0));
        due("%q", "\"\\xff%\\x00\"", (Object) Checks.bytes(255, 37, 0));
        due("%s%d", "%d5", "%d", 5);
    }

    private static void truthsAndPlain() {
        due("%t %t", "true false", true, false);
        due("%v %v %v %v %v %v", "-5 18446744073709551615 false a\"b nil (chan)",
                -5, ALL_BITS, false, "a\"b", NIL, new Checks.Thing(4));
    }

    private static void widths() {
        due("%5d|%-5d|%5d|%-5d", "   42|42   |  -42|-42  ", 42, 42, -42, -42);
        due("%2d|%1d|%3d", "123|123|123", 123, 123, 123);
        due("%5s|%-5s|%5t|%-6t|%9q|%6x", "   ab|ab   | true|false |     \"ab\"|  6162", "ab", "ab", true, false, "ab", "ab");
        due("%4v|%-4v|%8v|%4v", " nil|nil |   (map)|   7", NIL, NIL, new Checks.Thing(3), 7);
        due("%3s|%3s|%-3s", " \u00e9|\u20ac|\u20ac", "\u00e9", "\u20ac", "\u20ac");
        due("%3s|%-3s|", "   |   |", "", "");
        due("%99d", " ".repeat(98) + "5", 5);
        due("%-99d", "5" + " ".repeat(98), 5);
        due("%10d|%10d", "         5|         6", 5, 6);
    }

    private static void zeros() {
        due("%05d|%05d|%+05d|%05d", "00042|-0042|+0042|123456", 42, -42, 42, 123456);
        due("%06x|%06X|%06b|%06o", "0000ab|-000AB|000101|000017", 171, -171, 5, 15);
        due("%-05d|%0-5d|%-+05d|", "42   |42   |+42  |", 42, 42, 42);
        due("%05s|%05t|%05v|%05x|%05X|%05q", "   ab| true|   42| 6162| 6162| \"ab\"", "ab", true, 42, "ab", "ab", "ab");
        due("%0d|%0s", "7|a", 7, "a");
        due("%020d", "-0000000000000000001", -1);
        due("%099d", "0".repeat(98) + "5", 5);
        due("%02d|%03d|%+02d", "-5|-05|+5", -5, -5, 5);
    }

    private static void flagsAndWidthsAtTheirEdges() {
        due("%+-+0-0005d|", "+7   |", 7);
        due("%0000000d", "7", 7);
        due("%123d", "%!3d", 7);
        due("%100d", "%!0d", 7);
        due("%10d", "         7", 7);
        due("%5-d", "%!-d", 7);
        due("%5+d", "%!+d", 7);
        due("%12-d", "%!-d", 7);
        due("%1d", "7", 7);
    }

    private static void whatIsWrong() {
        due("%", "%!");
        due("%", "%!", 5);
        due("ab%-+05", "ab%!", 5);
        due("ab%12", "ab%!", 5);
        due("%d", "%!d");
        due("%-5d|", "%!d|");
        due("%z|%9z|% d|%D", "%!z|%!z|%! d|%!D", 1, "a", 2, 3);
        due(Checks.bytes('%', 200, '%', 0, '%', '9', 255), Checks.bytes('%', '!', 200, '%', '!', 0, '%', '!', 255), 1);
        due("%s%t", "%!s%!t", 1, 1);
        due("%d%b%o%c%t", "%!d%!b%!o%!c%!t", "a", "a", "a", "a", "a");
        due("%d%x%X%b%o%c%s%q", "%!d%!x%!X%!b%!o%!c%!s%!q", true, true, true, true, true, true, true, true);
        due("%d%x%X%b%o%c%s%q%t", "%!d%!x%!X%!b%!o%!c%!s%!q%!t", NIL, NIL, NIL, NIL, NIL, NIL, NIL, NIL, NIL);
        Checks.Thing map = new Checks.Thing(3);
        due("%d%x%X%b%o%c%s%q%t", "%!d%!x%!X%!b%!o%!c%!s%!q%!t", map, map, map, map, map, map, map, map, map);
        due("%+09s", "%!s", 5);
    }

    private static void argumentsInTheirRow() {
        due("%z%d", "%!z2", 1, 2);
        due("%s%d", "%!s2", 1, 2);
        due("%d %d %d", "1 2 %!d", 1, 2);
        due("%d", "1", 1, 2);
        due("%d%d%d%d%d%d%d%d%d%d%d%d%d%d%d%d%d", "0123456789101112131415%!d",
                0, 1, 2, 3, 4, 5, 6, 7, 8, 9, 10, 11, 12, 13, 14, 15);
    }

    private static void percents() {
        due("%%", "%");
        due("100%% %d%%", "100% 5%", 5);
        due("%%%", "%%!");
        due("%%d", "%d", 5);
        due("%5%%-3%%+%%0%|%d", "%%%%|5", 5);
    }

    private static void cutResults() {
        due(Checks.times('a', 4096), Checks.times('a', 4096));
        due(Checks.joined(Checks.times('a', 4094), Checks.bytes("%d")),
                Checks.joined(Checks.times('a', 4094), Checks.bytes("12")), 123);
        due(Checks.joined(Checks.times('a', 4090), Checks.bytes("%10s")),
                Checks.joined(Checks.times('a', 4090), Checks.bytes("  abcd")), "abcdefgh");
        due(Checks.joined(Checks.times('a', 4091), Checks.bytes("%99d")),
                Checks.joined(Checks.times('a', 4091), Checks.bytes("     ")), 7);
        due(Checks.joined(Checks.times('a', 4090), Checks.bytes("%-99d")),
                Checks.joined(Checks.times('a', 4090), Checks.bytes("7     ")), 7);
        due(Checks.joined(Checks.times('a', 4089), Checks.bytes("%+099d")),
                Checks.joined(Checks.times('a', 4089), Checks.bytes("+000000")), 7);
        due(Checks.joined(Checks.times('a', 4092), Checks.bytes("%98v")),
                Checks.joined(Checks.times('a', 4092), Checks.bytes(" bbb")), "b".repeat(97));
        due(Checks.joined(Checks.times('a', 4092), Checks.bytes("%98v")),
                Checks.joined(Checks.times('a', 4092), Checks.bytes("bbbb")), "b".repeat(98));
        due(Checks.joined(Checks.times('a', 4000), Checks.bytes("%v%v%9d%-9d%x")),
                Checks.joined(Checks.times('a', 4000), Checks.times('b', 96)), "b".repeat(90), "b".repeat(300), 1, 2, 3);
        due(Checks.joined(Checks.times('a', 4093), Checks.bytes("%c")),
                Checks.joined(Checks.times('a', 4093), Checks.bytes(0xF0, 0x9F, 0x98)), 0x1F600);
        due("%q", Checks.joined(Checks.bytes("\""), Checks.bytes("\\x00".repeat(1023)), Checks.bytes("\\x0")),
                (Object) new byte[2000]);
        due("%x", Checks.times('0', 4096), (Object) new byte[4096]);
    }

    private static void argumentsAreNoneThen() {
        TextForge forge = new TextForge();
        forge.number(1, true);
        forge.number(2, true);
        Checks.fed(forge, "%d").format();
        Checks.due("arguments behind format", forge.truth(true), 1);
        forge.format();
        Checks.dueResult("an empty format", forge, "");
        Checks.due("arguments behind an empty format", forge.truth(true), 1);
        Checks.fed(forge, "%t%").format();
        forge.number(3, true);
        Checks.fed(forge, "d%d").format();
        Checks.dueResult("a format behind one that was cut off", forge, "d3");
    }
}
