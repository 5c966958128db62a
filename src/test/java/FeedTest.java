/** Promises 1 to 3: a new object, feed, end. */
final class FeedTest {
    public static void main(String[] args) {
        Checks.promise(1, "a new object");
        newObject();
        Checks.promise(2, "feed");
        feedAppendsHighestFirst();
        feedRefusesMoreThanMost();
        Checks.promise(3, "end");
        endCuts();
        endRefuses();
        Checks.promise(3, "the text that is fed is used up by the call that reads it");
        textIsUsedUp();
        Checks.finish("FeedTest");
    }

    /** Quoting shows the fed text, and uses it up. */
    private static void dueFed(String what, TextForge forge, String quoted) {
        forge.quote();
        Checks.dueResult(what, forge, quoted);
    }

    private static void newObject() {
        TextForge forge = new TextForge();
        Checks.due("new: size()", forge.size(), 0);
        Checks.due("new: parsed()", forge.parsed(), 0L);
        Checks.dueNoElement("new: byteOf(0)", () -> forge.byteOf(0));
        Checks.dueNoElement("new: code(0, 0)", () -> forge.code(0, 0));
        Checks.due("new: end(1)", forge.end(1), false);
        Checks.due("new: end(0)", forge.end(0), true);
        Checks.due("new: join", forge.join(true), 0);
        Checks.due("new: number", forge.number(5, true), 1);
        dueFed("new: text", forge, "\"\"");
        Checks.due("new: format", new TextForge().format(), 0);
        Checks.due("new: decode", new TextForge().decode(), 0);
        Checks.due("new: parse", new TextForge().parse(10), false);
    }

    private static void feedAppendsHighestFirst() {
        TextForge forge = new TextForge();
        Checks.due("feed", forge.feed(0x61626364, 0x65666768, 0x696a6b6c, 0x6d6e6f70, 0x71727374), true);
        Checks.due("feed", forge.feed(0x41424344, 0x45464748, 0x494a4b4c, 0x4d4e4f50, -1), true);
        Checks.due("end(41)", forge.end(41), false);
        dueFed("feed twice", forge, "\"abcdefghijklmnopqrstABCDEFGHIJKLMNOP\\xff\\xff\\xff\\xff\"");
    }

    private static void feedRefusesMoreThanMost() {
        TextForge forge = new TextForge();
        for (int i = 0; i < 204; i++) {
            Checks.due("feed " + i, forge.feed(0x61616161, 0, 0, 0, i), true);
        }
        Checks.due("feed beyond", forge.feed(1, 2, 3, 4, 5), false);
        Checks.due("end(4081)", forge.end(4081), false);
        Checks.due("end(4077)", forge.end(4077), true);
        Checks.due("feed to 4097", forge.feed(1, 2, 3, 4, 5), false);
        Checks.due("end(4076)", forge.end(4076), true);
        Checks.due("feed to 4096", forge.feed(1, 2, 3, 4, 0x7a7a7a7a), true);
        Checks.due("feed to 4116", forge.feed(1, 2, 3, 4, 5), false);
        Checks.due("end(4097)", forge.end(4097), false);
        Checks.due("decode 4096", forge.decode(), 4096);
        Checks.due("byte 4075", forge.code(4075, 0), 0);
        Checks.due("byte 4079", forge.code(4079, 0), 1);
        Checks.due("byte 4095", forge.code(4095, 0), 0x7a);
    }

    private static void endCuts() {
        TextForge forge = Checks.fed(new TextForge(), "abcdef");
        Checks.due("end(6)", forge.end(6), true);
        Checks.due("end(3)", forge.end(3), true);
        Checks.due("end(4) behind end(3)", forge.end(4), false);
        Checks.due("feed behind end", forge.feed(0x31323334, 0x35363738, 0x39303132, 0x33343536, 0x37383930), true);
        Checks.due("end(23)", forge.end(23), true);
        dueFed("feed behind end", forge, "\"abc12345678901234567890\"");
        Checks.fed(forge, "xyz").end(0);
        dueFed("end(0)", forge, "\"\"");
    }

    private static void endRefuses() {
        TextForge forge = Checks.fed(new TextForge(), "abc");
        Checks.due("end(-1)", forge.end(-1), false);
        Checks.due("end(least)", forge.end(Integer.MIN_VALUE), false);
        Checks.due("end(4)", forge.end(4), false);
        Checks.due("end(greatest)", forge.end(Integer.MAX_VALUE), false);
        dueFed("refused end changes nothing", forge, "\"abc\"");
    }

    private static void textIsUsedUp() {
        TextForge forge = new TextForge();
        Checks.fed(forge, "abc").text();
        Checks.due("used up by text()", forge.end(1), false);
        Checks.fed(forge, "abc").format();
        Checks.due("used up by format()", forge.end(1), false);
        Checks.fed(forge, "abc").quote();
        Checks.due("used up by quote()", forge.end(1), false);
        Checks.fed(forge, "77").parse(8);
        Checks.due("used up by parse()", forge.end(1), false);
        Checks.fed(forge, "no").parse(8);
        Checks.due("used up by parse() that is false", forge.end(1), false);
        Checks.fed(forge, "abc").decode();
        Checks.due("used up by decode()", forge.end(1), false);
        Checks.fed(forge, "abc").join(true);
        forge.encode(65);
        forge.clear();
        forge.number(1, true);
        forge.truth(true);
        forge.thing(0);
        Checks.due("not used up by the others", forge.end(3), true);
    }
}
