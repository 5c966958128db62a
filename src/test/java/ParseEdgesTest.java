import java.math.BigInteger;

/** Promises 12 and 13 at their edges: parse and parsed. */
final class ParseEdgesTest {
    private static final BigInteger GREATEST = BigInteger.valueOf(Long.MAX_VALUE);
    private static final BigInteger LEAST = BigInteger.valueOf(Long.MIN_VALUE);

    public static void main(String[] args) {
        emptyText();
        signsAlone();
        signsElsewhere();
        digitsOfTheBase();
        bytesBesideTheDigits();
        greatest();
        least();
        farBeyond();
        zeros();
        textsOfAllBytes();
        noSuchBase();
        whatParseLeaves();
        parsedLatest();
        Checks.finish("ParseEdgesTest");
    }

    private static void dueNumber(int base, String text, long want) {
        due(base, text, true, want);
    }

    private static void dueNone(int base, String text) {
        due(base, text, false, 0);
    }

    /** Behind a number that is another, so that one that is left standing shows. */
    private static void due(int base, String text, boolean isNumber, long want) {
        TextForge forge = Checks.fed(new TextForge(), "1");
        forge.parse(2);
        Checks.fed(forge, text);
        String what = "parse(" + base + ") of " + text;
        Checks.due(what, forge.parse(base), isNumber);
        Checks.due("promise 13, parsed() behind " + what, forge.parsed(), want);
        Checks.due("promise 13, parsed() once more behind " + what, forge.parsed(), want);
        Checks.due("the text behind " + what, forge.end(1), false);
    }

    private static void emptyText() {
        Checks.promise(12, "false, and the number is 0, when it is none: an empty text");
        for (int base = 2; base <= 36; base++) {
            dueNone(base, "");
        }
        TextForge forge = Checks.fed(new TextForge(), "11");
        Checks.due("parse(2) of 11", forge.parse(2), true);
        Checks.due("parse(2) of what is used up", forge.parse(2), false);
        Checks.due("parsed() behind it", forge.parsed(), 0L);
        Checks.fed(forge, "11").end(0);
        Checks.due("parse(36) behind end(0)", forge.parse(36), false);
        Checks.due("parsed() behind it", forge.parsed(), 0L);
    }

    private static void signsAlone() {
        Checks.promise(12, "false, and the number is 0, when it is none: a sign alone");
        for (int base = 2; base <= 36; base++) {
            dueNone(base, "+");
            dueNone(base, "-");
        }
    }

    private static void signsElsewhere() {
        Checks.promise(12, "a sign + or - first, or none");
        dueNumber(10, "+7", 7);
        dueNumber(10, "-7", -7);
        dueNumber(10, "7", 7);
        for (String text : new String[] {"++7", "--7", "+-7", "-+7", "7+", "7-", "7+7", "7-7", "+ 7", " +7"}) {
            dueNone(10, text);
            dueNone(36, text);
        }
    }

    private static void digitsOfTheBase() {
        Checks.promise(12, "digits 0 .. 9 a .. z A .. Z that the base has, or has not");
        String small = "0123456789abcdefghijklmnopqrstuvwxyz";
        String large = "0123456789ABCDEFGHIJKLMNOPQRSTUVWXYZ";
        for (int base = 2; base <= 36; base++) {
            for (int digit = 0; digit < 36; digit++) {
                for (String digits : new String[] {small, large}) {
                    String text = digits.substring(digit, digit + 1);
                    boolean has = digit < base;
                    due(base, text, has, has ? digit : 0);
                    due(base, "-" + text, has, has ? -digit : 0);
                    due(base, "1" + text, has, has ? base + digit : 0);
                    due(base, text + "1", has, has ? digit * base + 1 : 0);
                }
            }
        }
    }

    private static void bytesBesideTheDigits() {
        Checks.promise(12, "a byte that is no digit");
        for (String text : new String[] {"/", ":", "@", "[", "`", "{", " ", "_", ".", "\u0000", "\u007f", "\u00b2", "\u0661"}) {
            dueNone(36, text);
            dueNone(36, "1" + text);
            dueNone(36, text + "1");
            dueNone(2, "1" + text + "1");
        }
        dueNone(16, "0x1");
        dueNone(10, "7\u0000");
    }

    private static void greatest() {
        Checks.promise(12, "the greatest number of 64 bits with sign, and the next one beyond");
        for (int base = 2; base <= 36; base++) {
            String digits = GREATEST.toString(base);
            dueNumber(base, digits, Long.MAX_VALUE);
            dueNumber(base, "+" + digits, Long.MAX_VALUE);
            dueNumber(base, "-" + digits, -Long.MAX_VALUE);
            dueNumber(base, digits.toUpperCase(), Long.MAX_VALUE);
            dueNumber(base, "000" + digits, Long.MAX_VALUE);
            dueNumber(base, GREATEST.subtract(BigInteger.ONE).toString(base), Long.MAX_VALUE - 1);
            String beyond = GREATEST.add(BigInteger.ONE).toString(base);
            dueNone(base, beyond);
            dueNone(base, "+" + beyond);
            dueNone(base, "000" + beyond);
        }
        dueNumber(2, "1".repeat(63), Long.MAX_VALUE);
        dueNone(2, "1" + "0".repeat(63));
        dueNumber(36, "1y2p0ij32e8e7", Long.MAX_VALUE);
        dueNone(36, "1y2p0ij32e8e8");
    }

    private static void least() {
        Checks.promise(12, "the least number of 64 bits with sign, and the next one beyond");
        for (int base = 2; base <= 36; base++) {
            String digits = LEAST.toString(base);
            dueNumber(base, digits, Long.MIN_VALUE);
            dueNumber(base, digits.toUpperCase(), Long.MIN_VALUE);
            dueNumber(base, "-000" + digits.substring(1), Long.MIN_VALUE);
            dueNumber(base, LEAST.add(BigInteger.ONE).toString(base), Long.MIN_VALUE + 1);
            String beyond = LEAST.subtract(BigInteger.ONE).toString(base);
            dueNone(base, beyond);
            dueNone(base, "-000" + beyond.substring(1));
        }
        dueNumber(2, "-1" + "0".repeat(63), Long.MIN_VALUE);
        dueNone(2, "-1" + "0".repeat(62) + "1");
        dueNumber(36, "-1y2p0ij32e8e8", Long.MIN_VALUE);
        dueNone(36, "-1y2p0ij32e8e9");
    }

    private static void farBeyond() {
        Checks.promise(12, "not within 64 bits with sign: numbers that would wrap around");
        for (int base = 2; base <= 36; base++) {
            for (int bits = 64; bits <= 70; bits++) {
                BigInteger wrapped = BigInteger.ONE.shiftLeft(bits);
                for (BigInteger number : new BigInteger[] {wrapped, wrapped.add(BigInteger.ONE), wrapped.subtract(BigInteger.ONE)}) {
                    dueNone(base, number.toString(base));
                    dueNone(base, number.negate().toString(base));
                }
            }
            dueNone(base, GREATEST.toString(base) + "0");
            dueNone(base, LEAST.toString(base) + "0");
        }
    }

    private static void zeros() {
        Checks.promise(12, "0 with a sign or without");
        for (int base = 2; base <= 36; base++) {
            for (String text : new String[] {"0", "+0", "-0", "00", "-000"}) {
                dueNumber(base, text, 0);
            }
        }
    }

    private static void textsOfAllBytes() {
        Checks.promise(12, "a text of 4096 bytes");
        dueNumber(10, "0".repeat(4095) + "7", 7);
        dueNumber(10, "-" + "0".repeat(4094) + "7", -7);
        dueNumber(10, "0".repeat(4077) + "9223372036854775807", Long.MAX_VALUE);
        dueNone(10, "0".repeat(4077) + "9223372036854775808");
        dueNone(10, "9".repeat(4096));
        dueNone(2, "1".repeat(4096));
        dueNone(36, "z".repeat(4096));
    }

    private static void noSuchBase() {
        Checks.promise(12, "IllegalArgumentException: no such base (the text stays); a call that throws changes nothing");
        for (int base : new int[] {1, 0, -1, -2, -10, 37, 38, 64, Integer.MIN_VALUE, Integer.MAX_VALUE}) {
            Filled filled = new Filled(3);
            Checks.dueThrow("parse(" + base + ")", IllegalArgumentException.class, () -> filled.forge.parse(base));
            filled.dueUnchanged("parse(" + base + ")");
            TextForge empty = new TextForge();
            Checks.dueThrow("parse(" + base + ") of no text", IllegalArgumentException.class, () -> empty.parse(base));
            TextForge forge = Checks.fed(new TextForge(), "10");
            Checks.dueThrow("parse(" + base + ") of 10", IllegalArgumentException.class, () -> forge.parse(base));
            Checks.due("parse(36) of the text that stays", forge.parse(36), true);
            Checks.due("parsed() behind it", forge.parsed(), 36L);
        }
        Checks.promise(12, "bases 2 .. 36");
        for (int base = 2; base <= 36; base++) {
            dueNumber(base, "10", base);
            dueNumber(base, "-10", -base);
        }
    }

    private static void whatParseLeaves() {
        Checks.promise(12, "the text that is fed is used up; nothing else but the number changes");
        for (int base : new int[] {10, 36}) {
            String what = "parse(" + base + ")";
            Filled filled = new Filled(16);
            Checks.due(what, filled.forge.parse(base), base == 36);
            Checks.due("end(1) behind " + what, filled.forge.end(1), false);
            filled.dueResult(what);
            filled.dueCodes(what);
            filled.dueArguments(what);
        }
    }

    private static void parsedLatest() {
        Checks.promise(13, "the number that was parsed latest");
        TextForge forge = Checks.fed(new TextForge(), "-8");
        forge.parse(10);
        Checks.due("behind -8", forge.parsed(), -8L);
        Checks.fed(forge, "z").parse(36);
        Checks.due("behind z", forge.parsed(), 35L);
        Checks.fed(forge, "z").parse(35);
        Checks.due("behind what is none", forge.parsed(), 0L);
        Checks.fed(forge, "9223372036854775807").parse(10);
        Checks.due("behind the greatest", forge.parsed(), Long.MAX_VALUE);
        Checks.fed(forge, "1");
        Checks.due("before the next one is parsed", forge.parsed(), Long.MAX_VALUE);
        Checks.dueThrow("parse(1)", IllegalArgumentException.class, () -> forge.parse(1));
        Checks.dueThrow("parse(37)", IllegalArgumentException.class, () -> forge.parse(37));
        Checks.due("behind calls that throw", forge.parsed(), Long.MAX_VALUE);
        forge.decode();
        forge.encode(5);
        forge.number(5, true);
        forge.join(true);
        Checks.due("behind calls of others", forge.parsed(), Long.MAX_VALUE);
    }
}
