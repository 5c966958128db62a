/** Promises 17 and 18 at their edges: size and byteOf. */
final class ResultEdgesTest {
    private static final int MOST = 4096;

    /** A call that makes a result. */
    private interface Making {
        int make(TextForge forge);
    }

    public static void main(String[] args) {
        sizeBehindEachCall();
        sizeBehindRefusedCalls();
        bytesAtTheirEdges();
        noSuchByte();
        byteThatThrowsChangesNothing();
        shorterResults();
        Checks.finish("ResultEdgesTest");
    }

    private static void dueSize(String what, TextForge forge, Making making, int want) {
        Checks.promise(17, "how many bytes the result has");
        Checks.due(what, making.make(forge), want);
        Checks.due("size() behind " + what, forge.size(), want);
        Checks.due("size() once more behind " + what, forge.size(), want);
        Checks.promise(18, "byteOf at 0, at the last one and at one more");
        Checks.dueNoElement("byteOf(size) behind " + what, () -> forge.byteOf(want));
        Checks.dueNoElement("byteOf(-1) behind " + what, () -> forge.byteOf(-1));
        if (want > 0) {
            Checks.due("byteOf(0) behind " + what, Checks.outcome(() -> forge.byteOf(0)) instanceof Integer, true);
            Checks.due("byteOf(size - 1) behind " + what, Checks.outcome(() -> forge.byteOf(want - 1)) instanceof Integer, true);
        }
    }

    private static void sizeBehindEachCall() {
        Checks.promise(17, "how many bytes the result has");
        Checks.due("size() of a new object", new TextForge().size(), 0);
        byte[] most = Checks.times('k', MOST);
        dueSize("format of no text", new TextForge(), TextForge::format, 0);
        dueSize("format", Checks.fed(Checks.with(42), "%5d|"), TextForge::format, 6);
        dueSize("format of 4096 bytes", Checks.fed(new TextForge(), most), TextForge::format, MOST);
        dueSize("format of more", Checks.fed(Checks.with(most), "%x"), TextForge::format, MOST);
        dueSize("join of none", new TextForge(), forge -> forge.join(true), 0);
        dueSize("join", Checks.with(1, true), forge -> forge.join(true), 6);
        dueSize("join of 4096 bytes", Checks.with((Object) most), forge -> forge.join(true), MOST);
        dueSize("join of more", Checks.with(most, 1), forge -> forge.join(true), MOST);
        dueSize("quote of no text", new TextForge(), TextForge::quote, 2);
        dueSize("quote", Checks.fed(new TextForge(), "a\n"), TextForge::quote, 5);
        dueSize("quote of 4095 bytes", Checks.fed(new TextForge(), Checks.times('k', MOST - 3)), TextForge::quote, MOST - 1);
        dueSize("quote of 4096 bytes", Checks.fed(new TextForge(), Checks.times('k', MOST - 2)), TextForge::quote, MOST);
        dueSize("quote of more", Checks.fed(new TextForge(), most), TextForge::quote, MOST);
        dueSize("encode(0)", new TextForge(), forge -> forge.encode(0), 1);
        dueSize("encode(128)", new TextForge(), forge -> forge.encode(128), 2);
        dueSize("encode(-1)", new TextForge(), forge -> forge.encode(-1), 3);
        dueSize("encode(1114111)", new TextForge(), forge -> forge.encode(1114111), 4);
    }

    private static void sizeBehindRefusedCalls() {
        Checks.promise(17, "calls that make no result, and calls that throw, leave it");
        TextForge forge = new TextForge();
        forge.encode(8364);
        forge.feed(1, 2, 3, 4, 5);
        forge.end(21);
        forge.end(2);
        Checks.due("size() behind feed and end", forge.size(), 3);
        Checks.dueThrow("parse(37)", IllegalArgumentException.class, () -> forge.parse(37));
        forge.parse(36);
        forge.decode();
        Checks.due("size() behind parse and decode", forge.size(), 3);
        for (int i = 0; i < 16; i++) {
            forge.text();
        }
        Checks.dueThrow("number", IllegalStateException.class, () -> forge.number(1, true));
        Checks.dueThrow("thing(9)", IllegalArgumentException.class, () -> forge.thing(9));
        forge.clear();
        Checks.due("size() behind the arguments", forge.size(), 3);
        Checks.dueResult("the result", forge, "\u20ac");
    }

    private static void bytesAtTheirEdges() {
        Checks.promise(18, "byte i of the result, 0 .. 255");
        for (int value = 0; value < 256; value++) {
            if (value != '%') {
                TextForge forge = Checks.fed(new TextForge(), Checks.bytes(value, 'a', value));
                forge.format();
                Checks.due("byteOf(0)", forge.byteOf(0), value);
                Checks.due("byteOf(1)", forge.byteOf(1), (int) 'a');
                Checks.due("byteOf(2)", forge.byteOf(2), value);
                Checks.due("byteOf(2) once more", forge.byteOf(2), value);
            }
        }
    }

    private static void noSuchByte() {
        Checks.promise(18, "NoSuchElementException: there is none");
        TextForge forge = new TextForge();
        forge.encode(8364);
        for (int i : new int[] {-1, -2, -3, -MOST, 3, 4, 255, MOST - 1, MOST, MOST + 1, Integer.MIN_VALUE, Integer.MAX_VALUE}) {
            Checks.dueNoElement("byteOf(" + i + ") of three bytes", () -> forge.byteOf(i));
            Checks.dueNoElement("byteOf(" + i + ") of none", () -> new TextForge().byteOf(i));
        }
        TextForge full = Checks.fed(new TextForge(), Checks.times(200, MOST));
        full.format();
        Checks.due("byteOf(4095)", full.byteOf(MOST - 1), 200);
        for (int i : new int[] {-1, MOST, MOST + 1, MOST + 98, MOST + 99, Integer.MAX_VALUE}) {
            Checks.dueNoElement("byteOf(" + i + ") of 4096", () -> full.byteOf(i));
        }
        TextForge more = Checks.fed(Checks.with(Checks.times(200, MOST), 1), "%s%99d");
        more.format();
        Checks.due("byteOf(4095) of a result that was cut", more.byteOf(MOST - 1), 200);
        for (int i : new int[] {MOST, MOST + 1, MOST + 98, MOST + 99}) {
            Checks.dueNoElement("byteOf(" + i + ") of a result that was cut", () -> more.byteOf(i));
        }
    }

    private static void byteThatThrowsChangesNothing() {
        Checks.promise(18, "a call that throws changes nothing");
        for (int i : new int[] {-1, 3, Integer.MIN_VALUE, Integer.MAX_VALUE}) {
            Filled filled = new Filled(16);
            Checks.dueNoElement("byteOf(" + i + ")", () -> filled.forge.byteOf(i));
            filled.dueUnchanged("byteOf(" + i + ")");
        }
    }

    private static void shorterResults() {
        Checks.promise(18, "behind a shorter result nothing of a longer one is left");
        TextForge forge = Checks.fed(new TextForge(), Checks.times('k', 40));
        forge.format();
        forge.encode(65);
        Checks.due("byteOf(0)", forge.byteOf(0), 65);
        Checks.dueNoElement("byteOf(1)", () -> forge.byteOf(1));
        Checks.dueNoElement("byteOf(39)", () -> forge.byteOf(39));
        forge.join(true);
        Checks.dueNoElement("byteOf(0)", () -> forge.byteOf(0));
    }
}
