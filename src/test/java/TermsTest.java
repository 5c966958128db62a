import java.nio.charset.StandardCharsets;

/** The sentences of "Terms" on which more than one promise leans: used up, as they are, plain, quoted. */
final class TermsTest {
    private static final String[] SORTS = {
        "nil", "(ptr)", "(func)", "(slice)", "(map)", "(chan)", "(interface)", "(struct)", "(array)", "(gate)"};

    /** A call that reads the text that is fed. */
    private interface Reading {
        void read(TextForge forge);
    }

    public static void main(String[] args) {
        usedUpByTheCallThatReadsIt();
        leftByTheOthers();
        bytesGoToTheResultAsTheyAre();
        textsAsTheyAre();
        plainIsTheSameByJoinAndByV();
        quotedIsTheSameByQuoteAndByQ();
        argumentsAreInARow();
        Checks.finish("TermsTest");
    }

    private static void dueUsedUp(int promise, String what, Reading reading) {
        Checks.promise(promise, "the text that is fed is used up by the call that reads it");
        for (String text : new String[] {"7", "kept", "\u20ac", "%d", "b".repeat(4096)}) {
            TextForge forge = Checks.fed(new TextForge(), text);
            reading.read(forge);
            Checks.due("end(1) behind " + what + " of " + text, forge.end(1), false);
            Checks.due("quote() behind " + what + " of " + text, forge.quote(), 2);
        }
    }

    private static void usedUpByTheCallThatReadsIt() {
        dueUsedUp(6, "text()", TextForge::text);
        dueUsedUp(9, "format()", TextForge::format);
        dueUsedUp(11, "quote()", TextForge::quote);
        dueUsedUp(12, "parse(10)", forge -> forge.parse(10));
        dueUsedUp(12, "parse(36)", forge -> forge.parse(36));
        dueUsedUp(15, "decode()", TextForge::decode);
    }

    private static void dueLeft(int promise, String what, Reading other) {
        Checks.promise(promise, "a call that reads no text leaves the one that is fed");
        TextForge forge = Checks.fed(new TextForge(), "kept");
        other.read(forge);
        Checks.due("end(5) behind " + what, forge.end(5), false);
        Checks.due("end(4) behind " + what, forge.end(4), true);
        forge.quote();
        Checks.dueResult("the text behind " + what, forge, "\"kept\"");
    }

    private static void leftByTheOthers() {
        dueLeft(4, "number", forge -> forge.number(1, true));
        dueLeft(5, "truth", forge -> forge.truth(true));
        dueLeft(7, "thing", forge -> forge.thing(-1));
        dueLeft(8, "clear", TextForge::clear);
        dueLeft(10, "join", forge -> forge.join(true));
        dueLeft(13, "parsed", TextForge::parsed);
        dueLeft(14, "encode", forge -> forge.encode(65));
        dueLeft(16, "code that throws", forge -> Checks.outcome(() -> forge.code(0, 0)));
        dueLeft(17, "size", TextForge::size);
        dueLeft(18, "byteOf that throws", forge -> Checks.outcome(() -> forge.byteOf(0)));
    }

    private static void bytesGoToTheResultAsTheyAre() {
        Checks.promise(9, "bytes but % go to the result as they are");
        for (int value = 0; value < 256; value++) {
            if (value != '%') {
                Checks.dueFormat(Checks.bytes(value), Checks.bytes(value));
                Checks.dueFormat(Checks.bytes('a', value, '%', 'd', value, value), Checks.bytes('a', value, '7', value, value), 7);
            }
        }
    }

    private static void textsAsTheyAre() {
        for (int value = 0; value < 256; value++) {
            byte[] text = Checks.bytes(value, 'a', value);
            Checks.promise(9, "s of a text: it; v: plain, the text");
            Checks.dueFormat("%s%v", Checks.joined(text, text), text, text);
            Checks.promise(10, "plain: the text");
            TextForge forge = Checks.with((Object) text);
            forge.join(true);
            Checks.dueResult("join of a text with byte " + value, forge, text);
        }
    }

    private static void duePlain(String want, Object argument) {
        Checks.promise(10, "plain is an argument as text");
        TextForge forge = Checks.with(argument);
        Checks.due("join to " + want, forge.join(false), want.length());
        Checks.dueResult("join to " + want, forge, want);
        Checks.promise(9, "v: plain, of every argument");
        Checks.dueFormat("%v", want, argument);
        Checks.dueFormat("%-+030v|", want + " ".repeat(30 - want.length()) + "|", argument);
        Checks.dueFormat("%+030v|", " ".repeat(30 - want.length()) + want + "|", argument);
    }

    private static void plainIsTheSameByJoinAndByV() {
        duePlain("0", 0);
        duePlain("-1", -1);
        duePlain("-9223372036854775808", Long.MIN_VALUE);
        duePlain("9223372036854775807", Long.MAX_VALUE);
        duePlain("9223372036854775808", new Checks.Unsigned(Long.MIN_VALUE));
        duePlain("18446744073709551615", new Checks.Unsigned(-1));
        for (long power = 1; power < 1_000_000_000_000_000_000L; power *= 10) {
            duePlain(Long.toString(power - 1), power - 1);
            duePlain(Long.toString(power), power);
            duePlain(Long.toString(-power), -power);
            duePlain(Long.toString(power), new Checks.Unsigned(power));
        }
        duePlain("true", true);
        duePlain("false", false);
        duePlain("", "");
        duePlain("a\"\\ %v\n", "a\"\\ %v\n");
        for (int sort = -1; sort <= 8; sort++) {
            duePlain(SORTS[sort + 1], new Checks.Thing(sort));
        }
    }

    private static void quotedIsTheSameByQuoteAndByQ() {
        byte[][] texts = {Checks.bytes(""), Checks.bytes("a'b"), Checks.bytes("\"\\"), Checks.bytes("\u0080\u00e9\u20ac"),
            Checks.bytes(0xe2, 0x82, 7, 127, 0xff)};
        String[] want = {"\"\"", "\"a'b\"", "\"\\\"\\\\\"", "\"\u0080\u00e9\u20ac\"", "\"\\xe2\\x82\\a\\x7f\\xff\""};
        for (int i = 0; i < texts.length; i++) {
            String what = "quote of " + new String(texts[i], StandardCharsets.ISO_8859_1);
            Checks.promise(11, "quoted is a text");
            TextForge forge = Checks.fed(new TextForge(), texts[i]);
            forge.quote();
            Checks.dueResult(what, forge, want[i]);
            Checks.promise(9, "q of a text: quoted");
            Checks.dueFormat("%q", want[i], (Object) texts[i]);
        }
    }

    private static void argumentsAreInARow() {
        Checks.promise(9, "arguments are in a row, and each letter takes the next one");
        Object[] row = {1, new Checks.Unsigned(-1), true, false, "a", new Checks.Thing(-1), new Checks.Thing(0), 65, 65, "b",
            "c", "d", -2, 3, 4, new Checks.Thing(8)};
        Checks.dueFormat("%d,%x,%t,%t,%s,%v,%v,%c,%q,%q,%x,%X,%b,%o,%d,%v",
                "1,ffffffffffffffff,true,false,a,nil,(ptr),A,'A',\"b\",63,64,-10,3,4,(gate)", row);
        Checks.promise(10, "arguments are in a row, one behind the other");
        TextForge forge = Checks.with(row);
        forge.join(true);
        Checks.dueResult("join", forge, "1 18446744073709551615 true false a nil (ptr) 65 65 b c d -2 3 4 (gate)");
    }
}
