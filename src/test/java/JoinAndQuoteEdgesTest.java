/** Promises 10 and 11 at their edges, but for the cut at 4096 bytes: join and quote. */
final class JoinAndQuoteEdgesTest {
    public static void main(String[] args) {
        joinOfNone();
        joinOfOne();
        joinOfSixteen();
        joinOfEmptyTexts();
        whatJoinLeaves();
        quoteOfAnEmptyText();
        quoteOfEachByte();
        quoteOfEachByteAmongOthers();
        quoteOfCodesAtTheirEdges();
        quoteOfNoCodes();
        whatQuoteLeaves();
        Checks.finish("JoinAndQuoteEdgesTest");
    }

    private static void dueJoin(boolean blanks, String want, Object... arguments) {
        TextForge forge = Checks.with(arguments);
        forge.encode(65);
        String what = "join(" + blanks + ") of " + arguments.length;
        Checks.due(what, forge.join(blanks), Checks.bytes(want).length);
        Checks.dueResult(what, forge, want);
        Checks.due(what + ", then join once more", forge.join(blanks), 0);
        Checks.dueResult(what + ", then join once more", forge, "");
        Checks.due(what + ", then truth", forge.truth(true), 1);
    }

    private static void joinOfNone() {
        Checks.promise(10, "join with no argument");
        dueJoin(true, "");
        dueJoin(false, "");
        TextForge forge = Checks.with(1, 2);
        forge.clear();
        Checks.due("join behind clear", forge.join(true), 0);
    }

    private static void joinOfOne() {
        Checks.promise(10, "join with one argument: no blank");
        Object[] arguments = {0, -1, Long.MIN_VALUE, Long.MAX_VALUE, new Checks.Unsigned(-1), true, false, "", " ", "a b",
            "%d", "\u20ac", new Checks.Thing(-1), new Checks.Thing(0), new Checks.Thing(8)};
        String[] want = {"0", "-1", "-9223372036854775808", "9223372036854775807", "18446744073709551615", "true", "false",
            "", " ", "a b", "%d", "\u20ac", "nil", "(ptr)", "(gate)"};
        for (int i = 0; i < arguments.length; i++) {
            dueJoin(true, want[i], arguments[i]);
            dueJoin(false, want[i], arguments[i]);
        }
    }

    private static void joinOfSixteen() {
        Checks.promise(10, "join with sixteen arguments, with blanks between, or not");
        Object[] sixteen = {1, 2, 3, 4, 5, 6, 7, 8, 9, 10, 11, 12, 13, 14, 15, true};
        dueJoin(true, "1 2 3 4 5 6 7 8 9 10 11 12 13 14 15 true", sixteen);
        dueJoin(false, "123456789101112131415true", sixteen);
        dueJoin(true, "1 2", 1, 2);
        dueJoin(false, "12", 1, 2);
    }

    private static void joinOfEmptyTexts() {
        Checks.promise(10, "join with empty texts");
        dueJoin(true, " ", "", "");
        dueJoin(false, "", "", "");
        dueJoin(true, " a ", "", "a", "");
        Object[] sixteen = {"", "", "", "", "", "", "", "", "", "", "", "", "", "", "", ""};
        dueJoin(true, " ".repeat(15), sixteen);
        dueJoin(false, "", sixteen);
    }

    private static void whatJoinLeaves() {
        Checks.promise(10, "join reads no text");
        for (int arguments : new int[] {0, 1, 16}) {
            Filled filled = new Filled(arguments);
            filled.forge.join(true);
            filled.dueNumber("join");
            filled.dueCodes("join");
            filled.dueText("join");
        }
    }

    private static void dueQuote(String what, byte[] text, String want) {
        dueQuote(what, text, Checks.bytes(want));
    }

    private static void dueQuote(String what, byte[] text, byte[] want) {
        TextForge forge = Checks.fed(new TextForge(), text);
        byte[] whole = Checks.joined(Checks.bytes("\""), want, Checks.bytes("\""));
        Checks.due("quote() of " + what, forge.quote(), whole.length);
        Checks.dueResult("quote() of " + what, forge, whole);
        Checks.dueFormat("%q", whole, (Object) text);
    }

    private static void quoteOfAnEmptyText() {
        Checks.promise(11, "quote of an empty text");
        dueQuote("no bytes", new byte[0], "");
        TextForge forge = Checks.fed(new TextForge(), "abc");
        forge.end(0);
        Checks.due("quote() behind end(0)", forge.quote(), 2);
        Checks.dueResult("quote() behind end(0)", forge, "\"\"");
        Checks.due("quote() once more", forge.quote(), 2);
        Checks.dueResult("quote() once more", forge, "\"\"");
    }

    /** What quoting makes of a byte that stands alone. */
    private static String quoted(int value) {
        if (value == '\\' || value == '"') {
            return "\\" + (char) value;
        }
        if (value >= 7 && value <= 13) {
            return "\\" + "abtnvfr".charAt(value - 7);
        }
        return value >= 32 && value < 127 ? Character.toString(value) : String.format("\\x%02x", value);
    }

    private static void quoteOfEachByte() {
        Checks.promise(11, "a code of 32 and more but \\ \" and 127 as it is, 7 .. 13, any other byte as \\x");
        for (int value = 0; value < 256; value++) {
            dueQuote("byte " + value, Checks.bytes(value), quoted(value));
        }
        dueQuote("6 to 14", Checks.bytes(6, 7, 8, 9, 10, 11, 12, 13, 14), "\\x06\\a\\b\\t\\n\\v\\f\\r\\x0e");
        dueQuote("31, 32, 126, 127, 128", Checks.bytes(31, 32, 126, 127, 128), "\\x1f ~\\x7f\\x80");
        dueQuote("\\ and \" and '", Checks.bytes("\\\"'"), "\\\\\\\"'");
        dueQuote("\\ at the end", Checks.bytes("a\\"), "a\\\\");
    }

    private static void quoteOfEachByteAmongOthers() {
        Checks.promise(11, "each of its places");
        for (int value = 0; value < 256; value++) {
            dueQuote("byte " + value + " twice among letters", Checks.bytes('a', value, 'b', value),
                    "a" + quoted(value) + "b" + quoted(value));
        }
    }

    private static void quoteOfCodesAtTheirEdges() {
        Checks.promise(11, "a code of 32 and more as it is");
        for (int code : new int[] {128, 159, 160, 2047, 2048, 55295, 57344, 65533, 65534, 65535, 65536, 1114111}) {
            byte[] text = Checks.bytes(Character.toString(code));
            dueQuote("code " + code, text, text);
            dueQuote("code " + code + " twice", Checks.joined(text, text), Checks.joined(text, text));
        }
    }

    private static void dueBytesAlone(int... values) {
        StringBuilder want = new StringBuilder();
        for (int value : values) {
            want.append(quoted(value));
        }
        dueQuote(java.util.Arrays.toString(values), Checks.bytes(values), want.toString());
    }

    private static void quoteOfNoCodes() {
        Checks.promise(11, "a byte at which no code begins, then that byte alone, as \\x");
        dueBytesAlone(0xc3);
        dueBytesAlone(0xe2, 0x82);
        dueBytesAlone(0xf0, 0x9f, 0x98);
        dueBytesAlone(0xe2, 0x82, 'a');
        dueBytesAlone(0xf0, 0x9f, 0x98, 10);
        dueBytesAlone(0xc0, 0x80);
        dueBytesAlone(0xc1, 0xbf);
        dueBytesAlone(0xe0, 0x9f, 0xbf);
        dueBytesAlone(0xf0, 0x8f, 0xbf, 0xbf);
        dueBytesAlone(0xed, 0xa0, 0x80);
        dueBytesAlone(0xed, 0xbf, 0xbf);
        dueBytesAlone(0xf4, 0x90, 0x80, 0x80);
        dueBytesAlone(0xf8, 0x88, 0x80, 0x80, 0x80);
        dueBytesAlone(0x80, 0xbf, 0xfe, 0xff);
        dueQuote("a code behind a byte alone", Checks.bytes(0xe2, 0xc3, 0xa9), "\\xe2\u00e9");
        dueQuote("a byte alone behind a code", Checks.bytes(0xc3, 0xa9, 0xa9), "\u00e9\\xa9");
        TextForge forge = Checks.fed(new TextForge(), "a\u20ac");
        forge.end(3);
        Checks.due("quote() of a code that end has cut off", forge.quote(), 11);
        Checks.dueResult("quote() of a code that end has cut off", forge, "\"a\\xe2\\x82\"");
    }

    private static void whatQuoteLeaves() {
        Checks.promise(11, "the text that is fed is used up; nothing else changes");
        Filled filled = new Filled(16);
        Checks.due("quote()", filled.forge.quote(), 6);
        Checks.dueResult("quote()", filled.forge, "\"kept\"");
        Checks.due("end(1) behind quote()", filled.forge.end(1), false);
        filled.dueNumber("quote()");
        filled.dueCodes("quote()");
        filled.dueArguments("quote()");
    }
}
