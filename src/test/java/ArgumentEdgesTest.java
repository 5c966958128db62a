/** Promises 4 to 8 at their edges: number, truth, text, thing, clear. */
final class ArgumentEdgesTest {
    private static final int MOST = 16;
    private static final Class<IllegalStateException> STATE = IllegalStateException.class;
    private static final Class<IllegalArgumentException> ARGUMENT = IllegalArgumentException.class;

    /** One way to give an argument. */
    private interface Giving {
        int give(TextForge forge);
    }

    public static void main(String[] args) {
        sixteenth(4, "number with sign", forge -> forge.number(Long.MIN_VALUE, true));
        sixteenth(4, "number without sign", forge -> forge.number(-1, false));
        sixteenth(5, "truth(true)", forge -> forge.truth(true));
        sixteenth(5, "truth(false)", forge -> forge.truth(false));
        sixteenth(6, "text()", TextForge::text);
        sixteenth(7, "thing(-1)", forge -> forge.thing(-1));
        sixteenth(7, "thing(0)", forge -> forge.thing(0));
        sixteenth(7, "thing(8)", forge -> forge.thing(8));
        allSixteenAreKept();
        numbersAtTheirEdges();
        textsAtTheirEdges();
        textThatIsRefusedIsNotUsedUp();
        sortsAtTheirEdges();
        noSuchSort();
        noSuchSortIsNamedFirst();
        clearWithNoArguments();
        clearWithArguments();
        Checks.finish("ArgumentEdgesTest");
    }

    private static TextForge withNumbers(int count) {
        TextForge forge = new TextForge();
        for (int i = 1; i <= count; i++) {
            forge.number(i, true);
        }
        return forge;
    }

    private static void sixteenth(int promise, String what, Giving giving) {
        Checks.promise(promise, "how many there are");
        Checks.due("the first by " + what, giving.give(new TextForge()), 1);
        Checks.due("the fifteenth by " + what, giving.give(withNumbers(MOST - 2)), MOST - 1);
        Checks.due("the sixteenth by " + what, giving.give(withNumbers(MOST - 1)), MOST);
        TextForge forge = new TextForge();
        for (int i = 1; i <= MOST; i++) {
            Checks.due("number " + i + " of sixteen by " + what, giving.give(forge), i);
        }
        Checks.promise(promise, "IllegalStateException: there are 16; a call that throws changes nothing");
        Checks.dueThrow("the seventeenth by " + what, STATE, () -> giving.give(forge));
        Filled filled = new Filled(MOST);
        Checks.dueThrow("the seventeenth by " + what, STATE, () -> giving.give(filled.forge));
        Checks.dueThrow("once more the seventeenth by " + what, STATE, () -> giving.give(filled.forge));
        filled.dueUnchanged("the seventeenth by " + what);
        Checks.due("the first behind these by " + what, giving.give(filled.forge), 1);
    }

    private static void allSixteenAreKept() {
        Checks.promise(4, "at most 16, in a row");
        TextForge forge = withNumbers(MOST);
        Checks.due("join", forge.join(true), 38);
        Checks.dueResult("sixteen", forge, "1 2 3 4 5 6 7 8 9 10 11 12 13 14 15 16");
        Checks.due("the first behind sixteen that were joined", forge.number(1, true), 1);
    }

    private static void dueJoin(String what, TextForge forge, String want) {
        forge.join(true);
        Checks.dueResult(what, forge, want);
    }

    private static void numbersAtTheirEdges() {
        Checks.promise(4, "a number of 64 bits with its sign");
        dueJoin("least, greatest, -1, 0, 1", Checks.with(Long.MIN_VALUE, Long.MAX_VALUE, -1, 0, 1),
                "-9223372036854775808 9223372036854775807 -1 0 1");
        Checks.promise(4, "a number of 64 bits without sign");
        dueJoin("2^63, 2^63 - 1, 2^64 - 1, 0, 1",
                Checks.with(new Checks.Unsigned(Long.MIN_VALUE), new Checks.Unsigned(Long.MAX_VALUE),
                        new Checks.Unsigned(-1), new Checks.Unsigned(0), new Checks.Unsigned(1)),
                "9223372036854775808 9223372036854775807 18446744073709551615 0 1");
    }

    private static void textsAtTheirEdges() {
        Checks.promise(6, "an empty text");
        TextForge forge = new TextForge();
        Checks.due("text() of no text", forge.text(), 1);
        Checks.fed(forge, "abc").end(0);
        Checks.due("text() behind end(0)", forge.text(), 2);
        dueJoin("two empty texts", forge, " ");
        Checks.promise(6, "the text that is fed is used up then");
        Checks.fed(forge, "abc");
        Checks.due("text() of abc", forge.text(), 1);
        Checks.due("end(1) behind text()", forge.end(1), false);
        Checks.due("text() once more", forge.text(), 2);
        dueJoin("abc and nothing", forge, "abc ");
        Checks.promise(6, "a text of 4096 bytes");
        TextForge full = Checks.fed(new TextForge(), Checks.times('k', 4096));
        Checks.due("text() of 4096 bytes", full.text(), 1);
        Checks.due("end(1) behind text()", full.end(1), false);
        Checks.due("join", full.join(true), 4096);
        Checks.dueResult("4096 bytes", full, Checks.times('k', 4096));
    }

    private static void textThatIsRefusedIsNotUsedUp() {
        Checks.promise(6, "not when this throws");
        TextForge forge = Checks.fed(withNumbers(MOST), "kept");
        Checks.dueThrow("text() as the seventeenth", STATE, forge::text);
        Checks.due("end(5)", forge.end(5), false);
        Checks.due("end(4)", forge.end(4), true);
        forge.clear();
        Checks.due("text() behind clear", forge.text(), 1);
        dueJoin("the text that was kept", forge, "kept");
        TextForge empty = withNumbers(MOST);
        Checks.dueThrow("an empty text as the seventeenth", STATE, empty::text);
    }

    private static void sortsAtTheirEdges() {
        Checks.promise(7, "NIL (sort -1) or a thing of a sort 0 .. 8");
        String[] want = {"nil", "(ptr)", "(func)", "(slice)", "(map)", "(chan)", "(interface)", "(struct)", "(array)", "(gate)"};
        for (int sort = -1; sort <= 8; sort++) {
            TextForge forge = new TextForge();
            Checks.due("thing(" + sort + ")", forge.thing(sort), 1);
            dueJoin("thing(" + sort + ")", forge, want[sort + 1]);
        }
    }

    private static void noSuchSort() {
        Checks.promise(7, "IllegalArgumentException: no such sort; a call that throws changes nothing");
        for (int arguments : new int[] {0, 1, MOST - 1}) {
            for (int sort : new int[] {-2, -3, 9, 10, 255, Integer.MIN_VALUE, Integer.MAX_VALUE}) {
                Filled filled = new Filled(arguments);
                Checks.dueThrow("thing(" + sort + ")", ARGUMENT, () -> filled.forge.thing(sort));
                filled.dueUnchanged("thing(" + sort + ") with " + arguments + " arguments");
            }
        }
    }

    private static void noSuchSortIsNamedFirst() {
        Checks.promise(7, "of two exceptions the one that it names first is thrown");
        for (int sort : new int[] {-2, 9, Integer.MIN_VALUE, Integer.MAX_VALUE}) {
            Filled filled = new Filled(MOST);
            Checks.dueThrow("thing(" + sort + ") with 16 arguments", ARGUMENT, () -> filled.forge.thing(sort));
            filled.dueUnchanged("thing(" + sort + ") with 16 arguments");
        }
        for (int sort = -1; sort <= 8; sort++) {
            int right = sort;
            Checks.dueThrow("thing(" + sort + ") with 16 arguments", STATE, () -> withNumbers(MOST).thing(right));
        }
    }

    private static void clearWithNoArguments() {
        Checks.promise(8, "clear with no arguments");
        Filled filled = new Filled(0);
        filled.forge.clear();
        filled.dueUnchanged("clear with no arguments");
        filled.forge.clear();
        filled.forge.clear();
        Checks.due("number behind clear", filled.forge.number(1, true), 1);
    }

    private static void clearWithArguments() {
        Checks.promise(8, "there are no arguments");
        for (int arguments : new int[] {1, MOST - 1, MOST}) {
            String what = "clear with " + arguments + " arguments";
            Filled filled = new Filled(arguments);
            filled.forge.clear();
            filled.dueResult(what);
            filled.dueNumber(what);
            filled.dueCodes(what);
            filled.dueText(what);
            Checks.due(what + ", then join", filled.forge.join(true), 0);
            Checks.due(what + ", then number", filled.forge.number(1, true), 1);
        }
        TextForge forge = withNumbers(MOST);
        Checks.dueThrow("the seventeenth", STATE, () -> forge.truth(true));
        forge.clear();
        for (int i = 1; i <= MOST; i++) {
            Checks.due("number " + i + " behind clear of sixteen", forge.truth(true), i);
        }
        Checks.dueThrow("the seventeenth behind clear", STATE, () -> forge.truth(true));
    }
}
