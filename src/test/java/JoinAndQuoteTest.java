/** Promises 10, 11, 17 and 18: join, quote, size, byteOf. */
final class JoinAndQuoteTest {
    public static void main(String[] args) {
        Checks.promise(10, "join");
        joins();
        joinCuts();
        Checks.promise(11, "quote");
        quotes();
        quoteOfPlacesWithoutCode();
        quoteCuts();
        Checks.promise(18, "byteOf");
        bytesOfTheResult();
        Checks.promise(17, "size");
        resultStays();
        Checks.finish("JoinAndQuoteTest");
    }

    private static void dueJoin(boolean blanks, String want, Object... arguments) {
        TextForge forge = Checks.with(arguments);
        String what = "join(" + blanks + ") to " + want;
        Checks.due(what, forge.join(blanks), Checks.bytes(want).length);
        Checks.dueResult(what, forge, want);
        Checks.due(what + ": arguments are none then", forge.truth(true), 1);
    }

    private static void joins() {
        dueJoin(true, "");
        dueJoin(false, "");
        dueJoin(true, "1", 1);
        dueJoin(true, "1 true a%d (gate) nil -5", 1, true, "a%d", new Checks.Thing(8), new Checks.Thing(-1), -5);
        dueJoin(false, "1truea%d(gate)nil-5", 1, true, "a%d", new Checks.Thing(8), new Checks.Thing(-1), -5);
        dueJoin(true, "  ", "", "", "");
        dueJoin(false, "", "", "", "");
        dueJoin(true, "18446744073709551615 9223372036854775808", new Checks.Unsigned(-1), new Checks.Unsigned(Long.MIN_VALUE));
    }

    private static void joinCuts() {
        TextForge forge = Checks.with("a".repeat(4000), "b".repeat(200), 7);
        Checks.due("join cut", forge.join(true), 4096);
        Checks.dueResult("join cut", forge, "a".repeat(4000) + " " + "b".repeat(95));
        forge = Checks.with("a".repeat(4095), 5, 6);
        Checks.due("join cut at a blank", forge.join(true), 4096);
        Checks.dueResult("join cut at a blank", forge, "a".repeat(4095) + " ");
        forge = Checks.with("a".repeat(4094), 55);
        Checks.due("join not cut", forge.join(false), 4096);
        Checks.dueResult("join not cut", forge, "a".repeat(4094) + "55");
    }

    private static void dueQuote(byte[] text, byte[] want) {
        TextForge forge = Checks.fed(new TextForge(), text);
        String what = "quote " + java.util.Arrays.toString(text);
        Checks.due(what, forge.quote(), want.length);
        Checks.dueResult(what, forge, want);
    }

    private static void dueQuote(byte[] text, String want) {
        dueQuote(text, Checks.bytes(want));
    }

    private static void quotes() {
        dueQuote(Checks.bytes(""), "\"\"");
        dueQuote(Checks.bytes("abc '~ \u00e9\u20ac\ufffd"), "\"abc '~ \u00e9\u20ac\ufffd\"");
        dueQuote(Checks.bytes("\\ \""), "\"\\\\ \\\"\"");
        dueQuote(Checks.bytes(7, 8, 9, 10, 11, 12, 13), "\"\\a\\b\\t\\n\\v\\f\\r\"");
        dueQuote(Checks.bytes(0, 1, 6, 14, 31, 32, 126, 127), "\"\\x00\\x01\\x06\\x0e\\x1f ~\\x7f\"");
        byte[] wide = Checks.bytes(0xC2, 0x80, 0xDF, 0xBF, 0xE0, 0xA0, 0x80, 0xEF, 0xBF, 0xBF,
                0xF0, 0x90, 0x80, 0x80, 0xF4, 0x8F, 0xBF, 0xBF, 0xED, 0x9F, 0xBF, 0xEE, 0x80, 0x80);
        dueQuote(wide, Checks.joined(Checks.bytes("\""), wide, Checks.bytes("\"")));
    }

    private static void quoteOfPlacesWithoutCode() {
        dueQuote(Checks.bytes(0x80, 0xBF, 0xFF, 0xFE), "\"\\x80\\xbf\\xff\\xfe\"");
        dueQuote(Checks.bytes(0xC3), "\"\\xc3\"");
        dueQuote(Checks.bytes(0xC3, 'a'), "\"\\xc3a\"");
        dueQuote(Checks.bytes(0xE2, 0x82), "\"\\xe2\\x82\"");
        dueQuote(Checks.bytes(0xE2, 0x82, 0xC3, 0xA9), "\"\\xe2\\x82\u00e9\"");
        dueQuote(Checks.bytes(0xC0, 0x80, 0xC1, 0xBF), "\"\\xc0\\x80\\xc1\\xbf\"");
        dueQuote(Checks.bytes(0xED, 0xA0, 0x80), "\"\\xed\\xa0\\x80\"");
        dueQuote(Checks.bytes(0xF4, 0x90, 0x80, 0x80), "\"\\xf4\\x90\\x80\\x80\"");
    }

    private static void quoteCuts() {
        dueQuote(Checks.times('a', 4094), "\"" + "a".repeat(4094) + "\"");
        dueQuote(Checks.times('a', 4095), "\"" + "a".repeat(4095));
        dueQuote(new byte[4096], "\"" + "\\x00".repeat(1023) + "\\x0");
    }

    private static void bytesOfTheResult() {
        TextForge forge = Checks.fed(new TextForge(), Checks.bytes(0, 127, 128, 255));
        Checks.due("format", forge.format(), 4);
        Checks.due("size", forge.size(), 4);
        int[] want = {0, 127, 128, 255};
        for (int i = 0; i < 4; i++) {
            Checks.due("byteOf " + i, forge.byteOf(i), want[i]);
        }
        for (int i : new int[] {-1, 4, 5, 4095, 4096, 4097, Integer.MIN_VALUE, Integer.MAX_VALUE}) {
            Checks.dueNoElement("byteOf " + i, () -> forge.byteOf(i));
        }
        Checks.fed(forge, Checks.times(200, 4096)).format();
        forge.number(1, true);
        Checks.due("last byte", forge.byteOf(4095), 200);
        Checks.dueNoElement("byteOf 4096", () -> forge.byteOf(4096));
        Checks.due("a shorter result", forge.encode(65), 1);
        Checks.dueNoElement("byteOf 1", () -> forge.byteOf(1));
    }

    private static void resultStays() {
        TextForge forge = Checks.with("abc");
        forge.join(false);
        Checks.fed(forge, "12");
        forge.text();
        forge.number(1, true);
        forge.truth(false);
        forge.thing(2);
        forge.clear();
        Checks.fed(forge, "12").parse(10);
        Checks.fed(forge, "12").decode();
        forge.parsed();
        forge.code(0, 0);
        Checks.dueNoElement("byteOf 3", () -> forge.byteOf(3));
        Checks.dueResult("calls that make no result", forge, "abc");
    }
}
