/** Promises 1 to 3 at their edges: a new object, feed, end. */
final class FeedEdgesTest {
    private static final int MOST = 4096;
    private static final int LEAST_INT = Integer.MIN_VALUE;
    private static final int GREATEST_INT = Integer.MAX_VALUE;

    public static void main(String[] args) {
        newObjectHasNoText();
        newObjectHasNoArguments();
        newObjectHasAnEmptyResult();
        newObjectSharesNothing();
        feedToJustTheMost();
        feedBeyondTheMost();
        feedThatIsRefusedChangesNothing();
        feedBehindAFullTextThatIsUsedUp();
        feedOfNumbersAtTheirEdges();
        endBelowZero();
        endAtZero();
        endAtAll();
        endAtOneMore();
        endThatIsRefusedChangesNothing();
        endCannotBringBack();
        Checks.finish("FeedEdgesTest");
    }

    private static void newObjectHasNoText() {
        Checks.promise(1, "no text");
        Checks.due("end(0) as first call", new TextForge().end(0), true);
        Checks.due("end(1) as first call", new TextForge().end(1), false);
        Checks.due("format() as first call", new TextForge().format(), 0);
        Checks.due("decode() as first call", new TextForge().decode(), 0);
        Checks.due("parse(10) as first call", new TextForge().parse(10), false);
        TextForge quoting = new TextForge();
        Checks.due("quote() as first call", quoting.quote(), 2);
        Checks.dueResult("quote() as first call", quoting, "\"\"");
        TextForge giving = new TextForge();
        Checks.due("text() as first call", giving.text(), 1);
        Checks.due("join of that text", giving.join(true), 0);
    }

    private static void newObjectHasNoArguments() {
        Checks.promise(1, "no arguments");
        Checks.due("number as first call", new TextForge().number(5, true), 1);
        Checks.due("truth as first call", new TextForge().truth(false), 1);
        Checks.due("thing as first call", new TextForge().thing(0), 1);
        Checks.due("join(true) as first call", new TextForge().join(true), 0);
        Checks.due("join(false) as first call", new TextForge().join(false), 0);
        TextForge cleared = new TextForge();
        cleared.clear();
        Checks.due("clear() as first call, then number", cleared.number(5, true), 1);
        Checks.dueFormat("%d%v", "%!d%!v");
    }

    private static void newObjectHasAnEmptyResult() {
        Checks.promise(1, "an empty result");
        Checks.due("size() as first call", new TextForge().size(), 0);
        for (int i : new int[] {-1, 0, 1, MOST - 1, LEAST_INT, GREATEST_INT}) {
            Checks.dueNoElement("byteOf(" + i + ") as first call", () -> new TextForge().byteOf(i));
        }
        Checks.dueNoElement("code(0, 0) as first call", () -> new TextForge().code(0, 0));
    }

    private static void newObjectSharesNothing() {
        Checks.promise(1, "a new object beside an old one");
        new Filled(16);
        TextForge forge = new TextForge();
        Checks.dueResult("new", forge, "");
        Checks.dueNoElement("code(0, 0)", () -> forge.code(0, 0));
        Checks.due("end(1)", forge.end(1), false);
        Checks.due("number", forge.number(5, true), 1);
    }

    /** Just so many bytes, each of them below 128 and another than its neighbours. */
    private static byte[] row(int length) {
        byte[] row = new byte[length];
        for (int i = 0; i < length; i++) {
            row[i] = (byte) (i * 7 + i / 128 & 127);
        }
        return row;
    }

    /** Decodes the text that is fed, which must be this one; all bytes are below 128. */
    private static void dueText(String what, TextForge forge, byte[] want) {
        Checks.due(what + ": bytes of the text", forge.decode(), want.length);
        for (int i = 0; i < want.length; i += i < 30 || i > want.length - 60 ? 1 : 29) {
            int place = i;
            Checks.due(what + ": byte " + i, Checks.outcome(() -> forge.code(place, 0)), (int) want[i]);
        }
    }

    private static boolean feedLetters(TextForge forge) {
        return forge.feed(0x7a797877, 0x76757473, 0x7271706f, 0x6e6d6c6b, 0x6a696867);
    }

    private static void feedToJustTheMost() {
        Checks.promise(2, "just 4096 bytes");
        TextForge forge = Checks.fed(new TextForge(), row(MOST - 20));
        Checks.due("feed behind 4076 bytes", feedLetters(forge), true);
        Checks.due("end(4097)", forge.end(MOST + 1), false);
        Checks.due("end(4096)", forge.end(MOST), true);
        dueText("4096 bytes", forge, Checks.joined(row(MOST - 20), Checks.bytes("zyxwvutsrqponmlkjihg")));
    }

    private static void feedBeyondTheMost() {
        Checks.promise(2, "false, changing nothing, when it would have more than 4096");
        for (int length : new int[] {MOST - 19, MOST - 16, MOST - 1, MOST}) {
            TextForge forge = Checks.fed(new TextForge(), row(length));
            Checks.due("feed behind " + length + " bytes", feedLetters(forge), false);
            Checks.due("feed once more behind " + length + " bytes", feedLetters(forge), false);
            Checks.due("end beyond " + length + " bytes", forge.end(length + 1), false);
            dueText("feed behind " + length + " bytes", forge, row(length));
        }
    }

    private static void feedThatIsRefusedChangesNothing() {
        Checks.promise(2, "false, changing nothing");
        Filled filled = new Filled(3);
        while (feedLetters(filled.forge)) {
            Checks.due("at most 4096 bytes", filled.forge.end(MOST + 1), false);
        }
        Checks.due("feed that is refused", feedLetters(filled.forge), false);
        Checks.due("end(4084)", filled.forge.end(4084), true);
        Checks.due("end(4)", filled.forge.end(4), true);
        filled.dueUnchanged("feed that is refused");
    }

    private static void feedBehindAFullTextThatIsUsedUp() {
        Checks.promise(2, "a text that is used up has room again");
        TextForge forge = Checks.fed(new TextForge(), row(MOST));
        Checks.due("feed", feedLetters(forge), false);
        forge.text();
        Checks.due("feed behind text()", feedLetters(forge), true);
        dueText("feed behind text()", forge, Checks.bytes("zyxwvutsrqponmlkjihg"));
    }

    private static void feedOfNumbersAtTheirEdges() {
        Checks.promise(2, "of each number the highest first");
        TextForge forge = new TextForge();
        Checks.due("feed", forge.feed(0x80ff007f, LEAST_INT, GREATEST_INT, -1, 0), true);
        Checks.due("format", forge.format(), 20);
        Checks.dueResult("the bytes", forge, Checks.bytes(0x80, 0xff, 0, 0x7f, 0x80, 0, 0, 0,
                0x7f, 0xff, 0xff, 0xff, 0xff, 0xff, 0xff, 0xff, 0, 0, 0, 0));
    }

    private static void endBelowZero() {
        Checks.promise(3, "false when n is below 0");
        for (int length : new int[] {0, 1, 20, MOST}) {
            for (int n : new int[] {-1, -2, -length - 1, LEAST_INT}) {
                TextForge forge = Checks.fed(new TextForge(), row(length));
                Checks.due("end(" + n + ") of " + length, forge.end(n), false);
                Checks.due("all of " + length + " still there", forge.end(length), true);
            }
        }
    }

    private static void endAtZero() {
        Checks.promise(3, "end with n 0");
        for (int length : new int[] {0, 1, 20, MOST}) {
            TextForge forge = Checks.fed(new TextForge(), row(length));
            Checks.due("end(0) of " + length, forge.end(0), true);
            Checks.due("end(0) once more of " + length, forge.end(0), true);
            Checks.due("end(1) behind end(0) of " + length, forge.end(1), false);
            Checks.due("feed behind end(0) of " + length, feedLetters(forge), true);
            dueText("feed behind end(0) of " + length, forge, Checks.bytes("zyxwvutsrqponmlkjihg"));
        }
    }

    private static void endAtAll() {
        Checks.promise(3, "end with all that the text has");
        for (int length : new int[] {1, 19, 20, 21, MOST}) {
            TextForge forge = Checks.fed(new TextForge(), row(length));
            Checks.due("end(all) of " + length, forge.end(length), true);
            Checks.due("end(all) once more of " + length, forge.end(length), true);
            dueText("end(all) of " + length, forge, row(length));
            TextForge one = Checks.fed(new TextForge(), row(length));
            Checks.due("end(all but one) of " + length, one.end(length - 1), true);
            dueText("end(all but one) of " + length, one, row(length - 1));
        }
    }

    private static void endAtOneMore() {
        Checks.promise(3, "false when it has not so many");
        for (int length : new int[] {0, 1, 20, MOST - 1, MOST}) {
            for (int n : new int[] {length + 1, length + 20, MOST + 1, GREATEST_INT}) {
                TextForge forge = Checks.fed(new TextForge(), row(length));
                Checks.due("end(" + n + ") of " + length, forge.end(n), false);
                Checks.due("just " + length + " still there", forge.end(length), true);
            }
        }
    }

    private static void endThatIsRefusedChangesNothing() {
        Checks.promise(3, "false, changing nothing");
        for (int n : new int[] {-1, LEAST_INT, 5, MOST, MOST + 1, GREATEST_INT}) {
            Filled filled = new Filled(3);
            Checks.due("end(" + n + ")", filled.forge.end(n), false);
            filled.dueUnchanged("end(" + n + ")");
        }
        Filled filled = new Filled(3);
        Checks.due("end(4)", filled.forge.end(4), true);
        filled.dueUnchanged("end with all");
    }

    private static void endCannotBringBack() {
        Checks.promise(3, "only the first n bytes count");
        TextForge forge = Checks.fed(new TextForge(), "abcdef");
        Checks.due("end(3)", forge.end(3), true);
        Checks.due("end(4) behind end(3)", forge.end(4), false);
        Checks.due("end(6) behind end(3)", forge.end(6), false);
        Checks.due("feed behind end(3)", feedLetters(forge), true);
        Checks.due("end(24)", forge.end(24), false);
        dueText("feed behind end(3)", forge, Checks.bytes("abczyxwvutsrqponmlkjihg"));
    }
}
