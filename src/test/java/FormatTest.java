/** Promise 9: format. */
final class FormatTest {
    private static final Checks.Unsigned ALL_BITS = new Checks.Unsigned(-1);
    private static final Checks.Unsigned TOP_BIT = new Checks.Unsigned(Long.MIN_VALUE);
    private static final Checks.Thing NIL = new Checks.Thing(-1);

    public static void main(String[] args) {
        Checks.promise(9, "format");
        bytesAsTheyAre();
        basesOfNumbers();
        plusFlag();
        codesOfNumbers();
        quotedNumbers();
        texts();
        truthsAndPlain();
        widths();
        zeros();
        flagsAndWidthsAtTheirEdges();
        whatIsWrong();
        argumentsInTheirRow();
        percents();
        cutResults();
        argumentsAreNoneThen();
        Checks.finish("FormatTest");
    }

    private static void bytesAsTheyAre() {
        Checks.dueFormat("", "");
        Checks.dueFormat("no directive, \u00e9\n", "no directive, \u00e9\n");
        Checks.dueFormat(Checks.bytes(0, 255, 128, 10), Checks.bytes(0, 255, 128, 10), 1);
    }

    private static void basesOfNumbers() {
        Checks.dueFormat("%d %x %X %b %o", "255 ff FF 11111111 377", 255, 255, 255, 255, 255);
        Checks.dueFormat("%d %x %X %b %o", "-171 -ab -AB -10101011 -253", -171, -171, -171, -171, -171);
        Checks.dueFormat("%d %x %X %b %o", "0 0 0 0 0", 0, 0, 0, 0, 0);
        Checks.dueFormat("%d %x %o", "-9223372036854775808 -8000000000000000 -1000000000000000000000",
                Long.MIN_VALUE, Long.MIN_VALUE, Long.MIN_VALUE);
        Checks.dueFormat("%b", "-1" + "0".repeat(63), Long.MIN_VALUE);
        Checks.dueFormat("%d %X %o", "9223372036854775807 7FFFFFFFFFFFFFFF 777777777777777777777",
                Long.MAX_VALUE, Long.MAX_VALUE, Long.MAX_VALUE);
        Checks.dueFormat("%d %x %X %o", "18446744073709551615 ffffffffffffffff FFFFFFFFFFFFFFFF 1777777777777777777777",
                ALL_BITS, ALL_BITS, ALL_BITS, ALL_BITS);
        Checks.dueFormat("%b", "1".repeat(64), ALL_BITS);
        Checks.dueFormat("%d", "9223372036854775808", TOP_BIT);
    }

    private static void plusFlag() {
        Checks.dueFormat("%+d %+x %+X %+b %+o", "+10 +a +A +1010 +12", 10, 10, 10, 10, 10);
        Checks.dueFormat("%+d %+d %+d", "+0 -1 +18446744073709551615", 0, -1, ALL_BITS);
        Checks.dueFormat("%+v %+s %+x %+t %+c %+q %+q", "7 ab 6162 true A 'A' \"A\"", 7, "ab", "ab", true, 65, 65, "A");
    }

    private static void codesOfNumbers() {
        Checks.dueFormat("%c%c%c", Checks.bytes(0, 65, 127), 0, 65, 127);
        Checks.dueFormat("%c%c", Checks.bytes(0xC2, 0x80, 0xDF, 0xBF), 128, 2047);
        Checks.dueFormat("%c%c", Checks.bytes(0xE0, 0xA0, 0x80, 0xEF, 0xBF, 0xBF), 2048, 65535);
        Checks.dueFormat("%c%c", Checks.bytes(0xF0, 0x90, 0x80, 0x80, 0xF4, 0x8F, 0xBF, 0xBF), 65536, 1114111);
        Checks.dueFormat("%c%c", Checks.bytes(0xED, 0x9F, 0xBF, 0xEE, 0x80, 0x80), 55295, 57344);
        String none = "\ufffd";
        Checks.dueFormat("%c%c%c%c", none.repeat(4), 55296, 57343, 1114112, -1);
        Checks.dueFormat("%c%c%c%c", none.repeat(4), ALL_BITS, TOP_BIT, 4294967296L + 65, Long.MIN_VALUE + 65);
        Checks.dueFormat("%4c|%-4c|%04c", "  \u00e9|\u00e9  |   A", 233, 233, 65);
    }

    private static void quotedNumbers() {
        Checks.dueFormat("%q%q%q", "'A''\u00e9''\u20ac'", 65, 233, 8364);
        Checks.dueFormat("%q%q%q", "'\\'''\"''\\\\'", 39, 34, 92);
        Checks.dueFormat("%q%q%q%q%q%q%q", "'\\a''\\b''\\t''\\n''\\v''\\f''\\r'", 7, 8, 9, 10, 11, 12, 13);
        Checks.dueFormat("%q%q%q%q%q%q", "'\\x00''\\x06''\\x0e''\\x1f'' ''\\x7f'", 0, 6, 14, 31, 32, 127);
        Checks.dueFormat("%q%q", Checks.bytes(39, 0xC2, 0x80, 39, 39, 126, 39), 128, 126);
        Checks.dueFormat("%q%q%q%q", "'\ufffd'".repeat(4), -1, 55296, 1114112, ALL_BITS);
        Checks.dueFormat("%6q|%-6q|%06q", "   'A'|'A'   |   'A'", 65, 65, 65);
    }

    private static void texts() {
        Checks.dueFormat("%s|%q|%x|%X", "a\"\u00e9|\"a\\\"\u00e9\"|6122c3a9|6122C3A9", "a\"\u00e9", "a\"\u00e9", "a\"\u00e9", "a\"\u00e9");
        Checks.dueFormat("%s|%q|%x|%X|%v", "|\"\"|||", "", "", "", "", "");
        Checks.dueFormat("%x", "00ff0a7f", (Object) Checks.bytes(0, 255, 10, 127));
        Checks.dueFormat("%s", Checks.bytes(255, 37, 0), (Object) Checks.bytes(255, 37, 0));
        Checks.dueFormat("%q", "\"\\xff%\\x00\"", (Object) Checks.bytes(255, 37, 0));
        Checks.dueFormat("%s%d", "%d5", "%d", 5);
    }

    private static void truthsAndPlain() {
        Checks.dueFormat("%t %t", "true false", true, false);
        Checks.dueFormat("%v %v %v %v %v %v", "-5 18446744073709551615 false a\"b nil (chan)",
                -5, ALL_BITS, false, "a\"b", NIL, new Checks.Thing(4));
    }

    private static void widths() {
        Checks.dueFormat("%5d|%-5d|%5d|%-5d", "   42|42   |  -42|-42  ", 42, 42, -42, -42);
        Checks.dueFormat("%2d|%1d|%3d", "123|123|123", 123, 123, 123);
        Checks.dueFormat("%5s|%-5s|%5t|%-6t|%9q|%6x", "   ab|ab   | true|false |     \"ab\"|  6162", "ab", "ab", true, false, "ab", "ab");
        Checks.dueFormat("%4v|%-4v|%8v|%4v", " nil|nil |   (map)|   7", NIL, NIL, new Checks.Thing(3), 7);
        Checks.dueFormat("%3s|%3s|%-3s", " \u00e9|\u20ac|\u20ac", "\u00e9", "\u20ac", "\u20ac");
        Checks.dueFormat("%3s|%-3s|", "   |   |", "", "");
        Checks.dueFormat("%99d", " ".repeat(98) + "5", 5);
        Checks.dueFormat("%-99d", "5" + " ".repeat(98), 5);
        Checks.dueFormat("%10d|%10d", "         5|         6", 5, 6);
    }

    private static void zeros() {
        Checks.dueFormat("%05d|%05d|%+05d|%05d", "00042|-0042|+0042|123456", 42, -42, 42, 123456);
        Checks.dueFormat("%06x|%06X|%06b|%06o", "0000ab|-000AB|000101|000017", 171, -171, 5, 15);
        Checks.dueFormat("%-05d|%0-5d|%-+05d|", "42   |42   |+42  |", 42, 42, 42);
        Checks.dueFormat("%05s|%05t|%05v|%05x|%05X|%05q", "   ab| true|   42| 6162| 6162| \"ab\"", "ab", true, 42, "ab", "ab", "ab");
        Checks.dueFormat("%0d|%0s", "7|a", 7, "a");
        Checks.dueFormat("%020d", "-0000000000000000001", -1);
        Checks.dueFormat("%099d", "0".repeat(98) + "5", 5);
        Checks.dueFormat("%02d|%03d|%+02d", "-5|-05|+5", -5, -5, 5);
    }

    private static void flagsAndWidthsAtTheirEdges() {
        Checks.dueFormat("%+-+0-0005d|", "+7   |", 7);
        Checks.dueFormat("%0000000d", "7", 7);
        Checks.dueFormat("%123d", "%!3d", 7);
        Checks.dueFormat("%100d", "%!0d", 7);
        Checks.dueFormat("%10d", "         7", 7);
        Checks.dueFormat("%5-d", "%!-d", 7);
        Checks.dueFormat("%5+d", "%!+d", 7);
        Checks.dueFormat("%12-d", "%!-d", 7);
        Checks.dueFormat("%1d", "7", 7);
    }

    private static void whatIsWrong() {
        Checks.dueFormat("%", "%!");
        Checks.dueFormat("%", "%!", 5);
        Checks.dueFormat("ab%-+05", "ab%!", 5);
        Checks.dueFormat("ab%12", "ab%!", 5);
        Checks.dueFormat("%d", "%!d");
        Checks.dueFormat("%-5d|", "%!d|");
        Checks.dueFormat("%z|%9z|% d|%D", "%!z|%!z|%! d|%!D", 1, "a", 2, 3);
        Checks.dueFormat(Checks.bytes('%', 200, '%', 0, '%', '9', 255), Checks.bytes('%', '!', 200, '%', '!', 0, '%', '!', 255), 1);
        Checks.dueFormat("%s%t", "%!s%!t", 1, 1);
        Checks.dueFormat("%d%b%o%c%t", "%!d%!b%!o%!c%!t", "a", "a", "a", "a", "a");
        Checks.dueFormat("%d%x%X%b%o%c%s%q", "%!d%!x%!X%!b%!o%!c%!s%!q", true, true, true, true, true, true, true, true);
        Checks.dueFormat("%d%x%X%b%o%c%s%q%t", "%!d%!x%!X%!b%!o%!c%!s%!q%!t", NIL, NIL, NIL, NIL, NIL, NIL, NIL, NIL, NIL);
        Checks.Thing map = new Checks.Thing(3);
        Checks.dueFormat("%d%x%X%b%o%c%s%q%t", "%!d%!x%!X%!b%!o%!c%!s%!q%!t", map, map, map, map, map, map, map, map, map);
        Checks.dueFormat("%+09s", "%!s", 5);
    }

    private static void argumentsInTheirRow() {
        Checks.dueFormat("%z%d", "%!z2", 1, 2);
        Checks.dueFormat("%s%d", "%!s2", 1, 2);
        Checks.dueFormat("%d %d %d", "1 2 %!d", 1, 2);
        Checks.dueFormat("%d", "1", 1, 2);
        Checks.dueFormat("%d%d%d%d%d%d%d%d%d%d%d%d%d%d%d%d%d", "0123456789101112131415%!d",
                0, 1, 2, 3, 4, 5, 6, 7, 8, 9, 10, 11, 12, 13, 14, 15);
    }

    private static void percents() {
        Checks.dueFormat("%%", "%");
        Checks.dueFormat("100%% %d%%", "100% 5%", 5);
        Checks.dueFormat("%%%", "%%!");
        Checks.dueFormat("%%d", "%d", 5);
        Checks.dueFormat("%5%%-3%%+%%0%|%d", "%%%%|5", 5);
    }

    private static void cutResults() {
        Checks.dueFormat(Checks.times('a', 4096), Checks.times('a', 4096));
        Checks.dueFormat(Checks.joined(Checks.times('a', 4094), Checks.bytes("%d")),
                Checks.joined(Checks.times('a', 4094), Checks.bytes("12")), 123);
        Checks.dueFormat(Checks.joined(Checks.times('a', 4090), Checks.bytes("%10s")),
                Checks.joined(Checks.times('a', 4090), Checks.bytes("  abcd")), "abcdefgh");
        Checks.dueFormat(Checks.joined(Checks.times('a', 4091), Checks.bytes("%99d")),
                Checks.joined(Checks.times('a', 4091), Checks.bytes("     ")), 7);
        Checks.dueFormat(Checks.joined(Checks.times('a', 4090), Checks.bytes("%-99d")),
                Checks.joined(Checks.times('a', 4090), Checks.bytes("7     ")), 7);
        Checks.dueFormat(Checks.joined(Checks.times('a', 4089), Checks.bytes("%+099d")),
                Checks.joined(Checks.times('a', 4089), Checks.bytes("+000000")), 7);
        Checks.dueFormat(Checks.joined(Checks.times('a', 4092), Checks.bytes("%98v")),
                Checks.joined(Checks.times('a', 4092), Checks.bytes(" bbb")), "b".repeat(97));
        Checks.dueFormat(Checks.joined(Checks.times('a', 4092), Checks.bytes("%98v")),
                Checks.joined(Checks.times('a', 4092), Checks.bytes("bbbb")), "b".repeat(98));
        Checks.dueFormat(Checks.joined(Checks.times('a', 4000), Checks.bytes("%v%v%9d%-9d%x")),
                Checks.joined(Checks.times('a', 4000), Checks.times('b', 96)), "b".repeat(90), "b".repeat(300), 1, 2, 3);
        Checks.dueFormat(Checks.joined(Checks.times('a', 4093), Checks.bytes("%c")),
                Checks.joined(Checks.times('a', 4093), Checks.bytes(0xF0, 0x9F, 0x98)), 0x1F600);
        Checks.dueFormat("%q", Checks.joined(Checks.bytes("\""), Checks.bytes("\\x00".repeat(1023)), Checks.bytes("\\x0")),
                (Object) new byte[2000]);
        Checks.dueFormat("%x", Checks.times('0', 4096), (Object) new byte[4096]);
    }

    private static void argumentsAreNoneThen() {
        TextForge forge = new TextForge();
        forge.number(1, true);
        forge.number(2, true);
        Checks.fed(forge, "%d").format();
        Checks.due("arguments behind format", forge.truth(true), 1);
        forge.format();
        Checks.dueResult("an empty format", forge, "");
        Checks.due("arguments behind an empty format", forge.truth(true), 1);
        Checks.fed(forge, "%t%").format();
        forge.number(3, true);
        Checks.fed(forge, "d%d").format();
        Checks.dueResult("a format behind one that was cut off", forge, "d3");
    }
}
