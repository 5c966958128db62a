/** Promises 4 to 8: number, truth, text, thing, clear. */
final class ArgumentsTest {
    private static final Class<IllegalStateException> STATE = IllegalStateException.class;
    private static final Class<IllegalArgumentException> ARGUMENT = IllegalArgumentException.class;

    public static void main(String[] args) {
        Checks.promise(4, "number and its likes");
        eachIsOneMore();
        numbers();
        Checks.promise(7, "thing");
        things();
        noSuchSort();
        Checks.promise(4, "number and its likes");
        sixteenAndOneMore();
        Checks.promise(6, "text");
        textsAreKeptApart();
        Checks.promise(8, "clear");
        clearDropsThem();
        Checks.finish("ArgumentsTest");
    }

    private static void dueJoin(String what, TextForge forge, String want) {
        forge.join(true);
        Checks.dueResult(what, forge, want);
    }

    private static void eachIsOneMore() {
        TextForge forge = new TextForge();
        Checks.due("number", forge.number(-7, true), 1);
        Checks.due("truth", forge.truth(true), 2);
        Checks.due("truth", forge.truth(false), 3);
        Checks.fed(forge, "a b");
        Checks.due("text", forge.text(), 4);
        Checks.due("text that is empty", forge.text(), 5);
        Checks.due("thing", forge.thing(0), 6);
        Checks.due("nil", forge.thing(-1), 7);
        dueJoin("all kinds", forge, "-7 true false a b  (ptr) nil");
    }

    private static void numbers() {
        TextForge forge = new TextForge();
        forge.number(0, true);
        forge.number(0, false);
        forge.number(Long.MIN_VALUE, true);
        forge.number(Long.MIN_VALUE, false);
        forge.number(Long.MAX_VALUE, true);
        forge.number(Long.MAX_VALUE, false);
        forge.number(-1, true);
        forge.number(-1, false);
        dueJoin("edges of 64 bits", forge, "0 0 -9223372036854775808 9223372036854775808 "
                + "9223372036854775807 9223372036854775807 -1 18446744073709551615");
    }

    private static void things() {
        TextForge forge = new TextForge();
        for (int sort = -1; sort <= 8; sort++) {
            Checks.due("thing " + sort, forge.thing(sort), sort + 2);
        }
        dueJoin("sorts", forge,
                "nil (ptr) (func) (slice) (map) (chan) (interface) (struct) (array) (gate)");
    }

    private static void noSuchSort() {
        TextForge forge = new TextForge();
        forge.truth(true);
        for (int sort : new int[] {-2, 9, Integer.MIN_VALUE, Integer.MAX_VALUE}) {
            Checks.dueThrow("thing " + sort, ARGUMENT, () -> forge.thing(sort));
        }
        dueJoin("a wrong sort changes nothing", forge, "true");
    }

    private static void sixteenAndOneMore() {
        TextForge forge = new TextForge();
        for (int i = 1; i <= 16; i++) {
            Checks.due("number " + i, forge.number(i, true), i);
        }
        Checks.fed(forge, "kept");
        Checks.dueThrow("17 numbers", STATE, () -> forge.number(17, false));
        Checks.dueThrow("17 with a truth", STATE, () -> forge.truth(true));
        Checks.dueThrow("17 with a text", STATE, forge::text);
        Checks.dueThrow("17 with a thing", STATE, () -> forge.thing(8));
        Checks.dueThrow("17 with nil", STATE, () -> forge.thing(-1));
        Checks.dueThrow("no such sort is named first", ARGUMENT, () -> forge.thing(9));
        dueJoin("nothing changed", forge, "1 2 3 4 5 6 7 8 9 10 11 12 13 14 15 16");
        Checks.due("the text stayed", forge.text(), 1);
        dueJoin("the text stayed", forge, "kept");
    }

    private static void textsAreKeptApart() {
        TextForge forge = new TextForge();
        Checks.fed(forge, "first text").text();
        Checks.fed(forge, "second").text();
        Checks.fed(forge, "third, not given");
        dueJoin("texts", forge, "first text second");
        TextForge large = new TextForge();
        Checks.fed(large, Checks.times('k', 4096));
        Checks.due("text of 4096 bytes", large.text(), 1);
        Checks.due("join", large.join(false), 4096);
        Checks.dueResult("text of 4096 bytes", large, Checks.times('k', 4096));
    }

    private static void clearDropsThem() {
        TextForge forge = new TextForge();
        forge.number(1, true);
        forge.thing(3);
        Checks.fed(forge, "%v%v");
        forge.clear();
        Checks.due("first behind clear", forge.truth(false), 1);
        Checks.due("format", forge.format(), 8);
        Checks.dueResult("clear", forge, "false%!v");
        forge.clear();
        Checks.dueResult("clear leaves the result", forge, "false%!v");
        for (int i = 0; i < 16; i++) {
            forge.truth(true);
        }
        forge.clear();
        Checks.due("number behind clear of 16", forge.number(1, true), 1);
    }
}
