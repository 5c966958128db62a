import java.math.BigInteger;

/** Promises 12 and 13: parse, parsed. */
final class ParseTest {
    public static void main(String[] args) {
        Checks.promise(12, "parse");
        numbers();
        edgesInEveryBase();
        digitsOfEveryBase();
        whatIsNone();
        noSuchBase();
        longTexts();
        Checks.finish("ParseTest");
    }

    static void due(byte[] text, int base, boolean isNumber, long want) {
        TextForge forge = new TextForge();
        Checks.fed(forge, "1").parse(10);
        Checks.fed(forge, text);
        String what = "parse(" + base + ") of " + new String(text, java.nio.charset.StandardCharsets.ISO_8859_1);
        Checks.due(what, forge.parse(base), isNumber);
        Checks.due(what + ", parsed()", forge.parsed(), want);
        Checks.due(what + ", parsed() again", forge.parsed(), want);
        Checks.due(what + ", the text is used up", forge.end(1), false);
    }

    private static void dueNumber(String text, int base, long want) {
        due(Checks.bytes(text), base, true, want);
    }

    private static void dueNone(String text, int base) {
        due(Checks.bytes(text), base, false, 0);
    }

    private static void numbers() {
        dueNumber("0", 10, 0);
        dueNumber("-0", 10, 0);
        dueNumber("+0", 10, 0);
        dueNumber("42", 10, 42);
        dueNumber("+42", 10, 42);
        dueNumber("-42", 10, -42);
        dueNumber("007", 10, 7);
        dueNumber("-101", 2, -5);
        dueNumber("fF", 16, 255);
        dueNumber("zZ", 36, 1295);
        dueNumber("-Az", 36, -395);
        dueNumber("777", 8, 511);
    }

    private static void edgesInEveryBase() {
        BigInteger greatest = BigInteger.valueOf(Long.MAX_VALUE);
        BigInteger least = BigInteger.valueOf(Long.MIN_VALUE);
        for (int base = 2; base <= 36; base++) {
            dueNumber(greatest.toString(base), base, Long.MAX_VALUE);
            dueNumber("+" + greatest.toString(base).toUpperCase(), base, Long.MAX_VALUE);
            dueNumber(least.toString(base), base, Long.MIN_VALUE);
            dueNumber(least.add(BigInteger.ONE).toString(base), base, Long.MIN_VALUE + 1);
            dueNone(greatest.add(BigInteger.ONE).toString(base), base);
            dueNone(least.subtract(BigInteger.ONE).toString(base), base);
            dueNone(greatest.toString(base) + "0", base);
            dueNone(least.toString(base) + "0", base);
            dueNone(BigInteger.ONE.shiftLeft(64).toString(base), base);
            dueNone(BigInteger.ONE.shiftLeft(64).add(BigInteger.ONE).toString(base), base);
        }
    }

    private static void digitsOfEveryBase() {
        for (int base = 2; base <= 36; base++) {
            for (int b = 0; b < 256; b++) {
                int digit = b < 128 ? Character.digit(b, base) : -1;
                due(Checks.bytes(b), base, digit >= 0, Math.max(digit, 0));
            }
        }
    }

    private static void whatIsNone() {
        for (String text : new String[] {"", "+", "-", "--1", "+-1", "-+1", "1-", "1+", " 1", "1 ", "1_0", "0x1", "1.0", "5a", "\u0663"}) {
            dueNone(text, 10);
        }
        dueNone("2", 2);
        dueNone("12", 2);
        dueNone("8", 8);
        dueNone("g", 16);
        dueNone("@", 36);
        dueNone("[", 36);
        dueNone("`", 36);
        dueNone("{", 36);
        dueNone("/", 36);
        dueNone(":", 36);
    }

    private static void noSuchBase() {
        TextForge forge = new TextForge();
        Checks.fed(forge, "12").parse(10);
        Checks.fed(forge, "34");
        for (int base : new int[] {1, 0, -1, -10, 37, Integer.MIN_VALUE, Integer.MAX_VALUE}) {
            Checks.dueThrow("parse(" + base + ")", IllegalArgumentException.class, () -> forge.parse(base));
        }
        Checks.due("the number stays", forge.parsed(), 12L);
        Checks.due("the text stays", forge.parse(36), true);
        Checks.due("the text stayed", forge.parsed(), 112L);
    }

    private static void longTexts() {
        dueNumber("0".repeat(4095) + "7", 10, 7);
        dueNumber("-" + "0".repeat(4094) + "7", 10, -7);
        dueNone("9".repeat(4096), 10);
        dueNone("1".repeat(64), 2);
        dueNumber("1".repeat(63), 2, Long.MAX_VALUE);
        dueNone("z".repeat(4096), 36);
    }
}
