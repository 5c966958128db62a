/** Promises 9 to 11 at the edge of the result: of it only the first 4096 bytes are kept. */
final class CutEdgesTest {
    private static final int MOST = 4096;

    public static void main(String[] args) {
        formatOfBytes();
        formatOfNumbers();
        formatOfTexts();
        formatOfBlanksAndZeros();
        formatOfWrongLetters();
        formatGoesOnBehindTheCut();
        join();
        quote();
        Checks.finish("CutEdgesTest");
    }

    /** The format behind just so many letters a makes the same letters and what is wanted. */
    private static void due(int letters, String format, String want, Object... arguments) {
        due(letters, format, Checks.bytes(want), arguments);
    }

    private static void due(int letters, String format, byte[] want, Object... arguments) {
        byte[] many = Checks.times('a', letters);
        Checks.due("bytes that are wanted", letters + want.length <= MOST, true);
        Checks.dueFormat(Checks.joined(many, Checks.bytes(format)), Checks.joined(many, want), arguments);
    }

    private static void formatOfBytes() {
        Checks.promise(9, "a result of just 4096 bytes and of more, from bytes but %");
        due(4095, "", "");
        due(4096, "", "");
        due(4093, "%db", "7b", 7);
        due(4092, "%dbc", "7bc", 7);
        due(4092, "%dbc", "77bc", 77);
        due(4092, "%dbc", "777b", 777);
        due(4092, "%dbc", "7777", 7777);
        due(4094, "%%", "%");
        due(4092, "%d%%", "777%", 777);
        due(4092, "%d%%", "7777", 7777);
    }

    private static void formatOfNumbers() {
        Checks.promise(9, "a result of just 4096 bytes and of more, from numbers");
        due(4094, "%d", "12", 12);
        due(4094, "%d", "12", 123);
        due(4094, "%d", "-1", -123);
        due(4094, "%x", "ff", new Checks.Unsigned(-1));
        due(4094, "%b", "-1", Long.MIN_VALUE);
        due(4093, "%+o", "+17", 63 + 64);
        due(4092, "%c", "\ud83d\ude00", 0x1f600);
        due(4093, "%c", Checks.bytes(0xf0, 0x9f, 0x98), 0x1f600);
        due(4094, "%c", Checks.bytes(0xf0, 0x9f), 0x1f600);
        due(4094, "%q", "'A", 65);
        due(4092, "%q", "'\\x0", 0);
    }

    private static void formatOfTexts() {
        Checks.promise(9, "a result of just 4096 bytes and of more, from texts");
        due(0, "%s", "b".repeat(MOST), "b".repeat(MOST));
        due(1, "%s", "b".repeat(MOST - 1), "b".repeat(MOST - 1));
        due(1, "%s", "b".repeat(MOST - 1), "b".repeat(MOST));
        due(0, "%sc", "b".repeat(MOST), "b".repeat(MOST));
        due(0, "%x", "62".repeat(MOST / 2), "b".repeat(MOST / 2));
        due(0, "%X", "62".repeat(MOST / 2), "b".repeat(MOST / 2 + 1));
        due(1, "%x", "62".repeat(MOST / 2 - 1) + "6", "b".repeat(MOST / 2));
        due(0, "%q", "\"" + "b".repeat(MOST - 2) + "\"", "b".repeat(MOST - 2));
        due(0, "%q", "\"" + "b".repeat(MOST - 1), "b".repeat(MOST - 1));
        due(0, "%q", "\"" + "b".repeat(MOST - 1), "b".repeat(MOST));
        due(4094, "%t", "tr", true);
        due(4094, "%v", "(g", new Checks.Thing(8));
        due(4094, "%v", "ni", new Checks.Thing(-1));
    }

    private static void formatOfBlanksAndZeros() {
        Checks.promise(9, "a result of just 4096 bytes and of more, from a width");
        due(4091, "%5d", "    7", 7);
        due(4091, "%6d", "     ", 7);
        due(4091, "%-5d", "7    ", 7);
        due(4091, "%-6d", "7    ", 7);
        due(4090, "%05d", "00007", 7);
        due(4090, "%07d", "-00000", -7);
        due(4090, "%99d", "      ", 7);
        due(4090, "%-99d", "7     ", 7);
        due(4090, "%+099d", "+00000", 7);
        due(4092, "%99s", " bbb", "b".repeat(98));
        due(4092, "%99s", "bbbb", "b".repeat(99));
        due(4092, "%99s", "bbbb", "b".repeat(100));
        due(4091, "%-99s", "bbbbb", "b".repeat(98));
        due(4093, "%4c", Checks.bytes(0xf0, 0x9f, 0x98), 0x1f600);
        due(4093, "%5c", Checks.bytes(' ', 0xf0, 0x9f), 0x1f600);
    }

    private static void formatOfWrongLetters() {
        Checks.promise(9, "a result of just 4096 bytes and of more, from %! and the letter");
        due(4092, "%z", "%!z");
        due(4092, "%d%z", "7%!z", 7, 8);
        due(4092, "%d%z", "77%!", 77, 8);
        due(4092, "%d%z", "777%", 777, 8);
        due(4092, "%d%z", "7777", 7777, 8);
        due(4094, "%", "%!");
        due(4095, "%", "%");
        due(4093, "%-9", "%!");
    }

    private static void formatGoesOnBehindTheCut() {
        Checks.promise(9, "what comes behind 4096 bytes is lost, and the call goes on");
        TextForge forge = Checks.with("b".repeat(4000), "c".repeat(95), 1, 2, 3);
        Checks.fed(forge, "%s%s%99d%-99d|%d%z%%%");
        Checks.due("format", forge.format(), MOST);
        Checks.dueResult("format", forge, "b".repeat(4000) + "c".repeat(95) + " ");
        Checks.due("arguments behind it", forge.number(1, true), 1);
        Checks.due("text behind it", forge.end(1), false);
        Checks.fed(forge, "%d").format();
        Checks.dueResult("a shorter result later", forge, "1");
        due(4095, "%", "%", 1, 2);
    }

    private static void dueJoin(boolean blanks, String want, Object... arguments) {
        TextForge forge = Checks.with(arguments);
        Checks.due("join(" + blanks + ")", forge.join(blanks), want.length());
        Checks.dueResult("join(" + blanks + ")", forge, want);
        Checks.due("arguments behind join(" + blanks + ")", forge.truth(true), 1);
    }

    private static void join() {
        Checks.promise(10, "a result of just 4096 bytes and of more");
        String most = "b".repeat(MOST);
        dueJoin(true, most, most);
        dueJoin(false, most, most);
        dueJoin(true, most, most, 1);
        dueJoin(false, most, most, 1, true, "a");
        dueJoin(true, most.substring(1) + " ", most.substring(1), 1);
        dueJoin(false, most.substring(1) + "1", most.substring(1), 1);
        dueJoin(false, most.substring(1) + "1", most.substring(1), 12);
        dueJoin(true, most.substring(2) + " 1", most.substring(2), 1);
        dueJoin(true, most.substring(2) + " 1", most.substring(2), 1, 2);
        dueJoin(true, most.substring(3) + " tr", most.substring(3), true);
        dueJoin(true, most.substring(3) + " -9", most.substring(3), Long.MIN_VALUE);
        dueJoin(true, most.substring(3) + " (p", most.substring(3), new Checks.Thing(0));
    }

    private static void dueQuote(byte[] text, byte[] want) {
        TextForge forge = Checks.fed(new TextForge(), text);
        Checks.due("quote() of " + text.length + " bytes", forge.quote(), want.length);
        Checks.dueResult("quote() of " + text.length + " bytes", forge, want);
        Checks.due("text behind quote()", forge.end(1), false);
    }

    private static void dueQuote(String text, String want) {
        dueQuote(Checks.bytes(text), Checks.bytes(want));
    }

    private static void quote() {
        Checks.promise(11, "a result of just 4096 bytes and of more");
        String most = "b".repeat(MOST);
        dueQuote(most.substring(3), "\"" + most.substring(3) + "\"");
        dueQuote(most.substring(2), "\"" + most.substring(2) + "\"");
        dueQuote(most.substring(1), "\"" + most.substring(1));
        dueQuote(most, "\"" + most.substring(1));
        dueQuote(most.substring(4) + "\n", "\"" + most.substring(4) + "\\n\"");
        dueQuote(most.substring(3) + "\n", "\"" + most.substring(3) + "\\n");
        dueQuote(most.substring(2) + "\n", "\"" + most.substring(2) + "\\");
        dueQuote(most.substring(3) + "\"", "\"" + most.substring(3) + "\\\"");
        dueQuote(most.substring(4) + "\u0000", "\"" + most.substring(4) + "\\x0");
        dueQuote("\u0000".repeat(1023) + "b", "\"" + "\\x00".repeat(1023) + "b\"");
        dueQuote("\u0000".repeat(1024), "\"" + "\\x00".repeat(1023) + "\\x0");
        dueQuote("\u0000".repeat(MOST), "\"" + "\\x00".repeat(1023) + "\\x0");
        dueQuote("\"".repeat(2047), "\"" + "\\\"".repeat(2047) + "\"");
        dueQuote("\"".repeat(2048), "\"" + "\\\"".repeat(2047) + "\\");
        byte[] many = Checks.times('b', 4093);
        dueQuote(Checks.joined(many, Checks.bytes(0xe2, 0x82, 0xac)),
                Checks.joined(Checks.bytes("\""), many, Checks.bytes(0xe2, 0x82)));
        dueQuote(Checks.joined(many, Checks.bytes(0xc3, 0xa9)),
                Checks.joined(Checks.bytes("\""), many, Checks.bytes(0xc3, 0xa9)));
    }
}
