/**
 * An object every part of which is known: a fed text, arguments, a result, a number that was parsed
 * and codes. It shows which of them a call leaves as they were.
 */
final class Filled {
    final TextForge forge = new TextForge();
    private final int arguments;

    /** With so many arguments: the numbers 1, 2, 3 .. */
    Filled(int arguments) {
        this.arguments = arguments;
        Checks.fed(forge, "x\u00e9").decode();
        Checks.fed(forge, "12").parse(10);
        forge.encode(8364);
        for (int i = 1; i <= arguments; i++) {
            forge.number(i, true);
        }
        Checks.fed(forge, "kept");
    }

    /** Reads the arguments and the text, so these are used up. */
    void dueUnchanged(String what) {
        dueResult(what);
        dueNumber(what);
        dueCodes(what);
        dueArguments(what);
        dueText(what);
    }

    void dueResult(String what) {
        Checks.dueResult(what + " leaves the result", forge, "\u20ac");
    }

    void dueNumber(String what) {
        Checks.due(what + " leaves the number", forge.parsed(), 12L);
    }

    void dueCodes(String what) {
        String leaves = what + " leaves the codes";
        int[] want = {120, 0, 1, 233, 1, 2};
        for (int i = 0; i < want.length; i++) {
            int at = i;
            Checks.due(leaves, Checks.outcome(() -> forge.code(at / 3, at % 3)), want[i]);
        }
        Checks.dueNoElement(leaves, () -> forge.code(2, 0));
    }

    /** Reads the arguments: they are none then, and the result is another one. */
    void dueArguments(String what) {
        String[] want = new String[arguments];
        for (int i = 0; i < arguments; i++) {
            want[i] = Integer.toString(i + 1);
        }
        forge.join(true);
        Checks.dueResult(what + " leaves the arguments", forge, String.join(" ", want));
    }

    /** Reads the text: it is used up then, and the result is another one. */
    void dueText(String what) {
        forge.quote();
        Checks.dueResult(what + " leaves the text", forge, "\"kept\"");
    }
}
