/** All promises: an object is used for at most 512 calls, and up to the last one each answer is as due. */
final class LifeTest {
    private static final int CALLS = 512;
    private static final int MOST_ARGUMENTS = 16;

    /** The call of a number 1, 2, 3 .. on an object. */
    private interface Numbered {
        Object run(TextForge forge, int number);
    }

    public static void main(String[] args) {
        feeds();
        ends();
        arguments();
        clears();
        results();
        numbers();
        codes();
        longerAndLongerTexts();
        fullTexts();
        Checks.finish("LifeTest");
    }

    private static void promise(int number) {
        Checks.promise(number, "up to the 512th call of an object");
    }

    private static void feeds() {
        promise(2);
        TextForge forge = new TextForge();
        for (int i = 1; i <= CALLS; i++) {
            Checks.due("feed, call " + i, forge.feed(i, i, i, i, i), i <= 204);
        }
    }

    private static void ends() {
        promise(3);
        TextForge forge = new TextForge();
        for (int i = 1; i <= CALLS; i++) {
            Checks.due("end, call " + i, i % 2 == 0 ? forge.end(1) : forge.end(0), i % 2 != 0);
        }
    }

    private static void dueSixteen(int promise, String what, Numbered call) {
        promise(promise);
        TextForge forge = new TextForge();
        for (int i = 1; i <= CALLS; i++) {
            int number = i;
            Object want = i <= MOST_ARGUMENTS ? i : "IllegalStateException";
            Checks.due(what + ", call " + i, Checks.outcome(() -> call.run(forge, number)), want);
        }
    }

    private static void arguments() {
        dueSixteen(4, "number", (forge, i) -> forge.number(i, i % 2 == 0));
        dueSixteen(5, "truth", (forge, i) -> forge.truth(i % 2 == 0));
        dueSixteen(6, "text", (forge, i) -> forge.text());
        dueSixteen(7, "thing", (forge, i) -> forge.thing(i % 10 - 1));
    }

    private static void clears() {
        promise(8);
        TextForge forge = new TextForge();
        for (int i = 1; i <= CALLS; i += 2) {
            forge.clear();
            Checks.due("number behind clear, call " + (i + 1), forge.number(i, true), 1);
        }
    }

    /** The first call of each pair prepares the second. */
    private static void duePairs(int promise, String what, Object want, Numbered first, Numbered second) {
        promise(promise);
        TextForge forge = new TextForge();
        for (int i = 1; i <= CALLS; i += 2) {
            first.run(forge, i);
            Checks.due(what + ", call " + (i + 1), second.run(forge, i + 1), want);
        }
    }

    private static Object feedLetters(TextForge forge) {
        return forge.feed(0x61616161, 0x61616161, 0x61616161, 0x61616161, 0x61616161);
    }

    private static void results() {
        duePairs(9, "format", 20, (forge, i) -> feedLetters(forge), (forge, i) -> forge.format());
        duePairs(10, "join", 4, (forge, i) -> forge.truth(true), (forge, i) -> forge.join(true));
        duePairs(11, "quote", 22, (forge, i) -> feedLetters(forge), (forge, i) -> forge.quote());
        duePairs(14, "encode", 3, (forge, i) -> forge.encode(65), (forge, i) -> forge.encode(8364));
        duePairs(17, "size", 3, (forge, i) -> forge.encode(8364), (forge, i) -> forge.size());
        duePairs(18, "byteOf", 65, (forge, i) -> forge.encode(65), (forge, i) -> forge.byteOf(0));
    }

    private static void numbers() {
        duePairs(12, "parse", true, (forge, i) -> forge.feed(0x30303030, 0x30303030, 0x30303030, 0x30303030, 0x30303137),
                (forge, i) -> forge.parse(10));
        promise(13);
        TextForge forge = new TextForge();
        forge.feed(0x2d303030, 0x30303030, 0x30303030, 0x30303030, 0x30303137);
        forge.parse(10);
        for (int i = 3; i <= CALLS; i++) {
            Checks.due("parsed, call " + i, forge.parsed(), -17L);
        }
    }

    private static void codes() {
        duePairs(15, "decode", 20, (forge, i) -> feedLetters(forge), (forge, i) -> forge.decode());
        promise(16);
        TextForge forge = new TextForge();
        feedLetters(forge);
        forge.decode();
        for (int i = 3; i <= CALLS; i++) {
            Checks.due("code, call " + i, forge.code(i % 20, 1), i % 20);
        }
    }

    private static void longerAndLongerTexts() {
        promise(15);
        TextForge forge = new TextForge();
        int calls = 0;
        for (int feeds = 1; calls + feeds + 2 <= CALLS; feeds++) {
            for (int i = 0; i < feeds; i++) {
                feedLetters(forge);
            }
            Checks.due("decode of " + feeds * 20 + " bytes", forge.decode(), feeds * 20);
            Checks.due("the last code", forge.code(feeds * 20 - 1, 1), feeds * 20 - 1);
            calls += feeds + 2;
        }
    }

    /** Two full texts take 206 calls each, text and format one each; the rest reads the result. */
    private static void fullTexts() {
        promise(9);
        byte[] format = Checks.times('f', 4096);
        format[0] = '%';
        format[1] = 's';
        TextForge forge = Checks.fed(new TextForge(), Checks.times('t', 4096));
        Checks.due("text", forge.text(), 1);
        Checks.fed(forge, format);
        Checks.due("format", forge.format(), 4096);
        for (int i = 415; i < CALLS; i++) {
            Checks.due("byteOf, call " + i, forge.byteOf(4095 - i), (int) 't');
        }
        Checks.due("size, call 512", forge.size(), 4096);
    }
}
