import java.nio.charset.StandardCharsets;

/** Promises 14 to 16: encode, decode, code. */
final class CodesTest {
    // Six calls or fewer for each code, and an object is used for 512 at most.
    private static final int OF_ONE_OBJECT = 64;

    public static void main(String[] args) {
        Checks.promise(14, "encode");
        encodesEveryCode();
        encodesWhatIsNone();
        Checks.promise(15, "decode");
        decodes();
        decodesPlacesWithoutCode();
        decodesEveryCode();
        decodesEveryPair();
        longTexts();
        Checks.promise(16, "code");
        noSuchCode();
        latestDecoding();
        Checks.finish("CodesTest");
    }

    private static boolean isCode(int value) {
        return value >= 0 && value <= 1114111 && (value < 55296 || value > 57343);
    }

    private static byte[] utf8(int code) {
        return new String(Character.toChars(code)).getBytes(StandardCharsets.UTF_8);
    }

    private static void encodesEveryCode() {
        TextForge forge = new TextForge();
        for (int code = 0; code <= 1114111; code++) {
            forge = code % OF_ONE_OBJECT == 0 ? new TextForge() : forge;
            byte[] want = utf8(isCode(code) ? code : 65533);
            boolean right = forge.encode(code) == want.length && forge.size() == want.length;
            for (int i = 0; right && i < want.length; i++) {
                right = forge.byteOf(i) == (want[i] & 255);
            }
            Checks.due("encode " + code, right, true);
        }
    }

    private static void encodesWhatIsNone() {
        TextForge forge = new TextForge();
        for (int code : new int[] {-1, 55296, 57343, 1114112, Integer.MIN_VALUE, Integer.MAX_VALUE}) {
            Checks.due("encode " + code, forge.encode(code), 3);
            Checks.dueResult("encode " + code, forge, Checks.bytes(0xEF, 0xBF, 0xBD));
        }
        Checks.due("encode 0", forge.encode(0), 1);
        Checks.dueResult("encode 0", forge, Checks.bytes(0));
    }

    /** The codes must be these: code, place, bytes, and so on. */
    static void due(byte[] text, int... want) {
        TextForge forge = Checks.fed(new TextForge(), text);
        dueCodes(java.util.Arrays.toString(text), forge, forge.decode(), want);
    }

    private static void dueCodes(String what, TextForge forge, int count, int... want) {
        Checks.due("decode " + what, count, want.length / 3);
        for (int i = 0; i < Math.min(want.length, 3 * count); i++) {
            Checks.due("code(" + i / 3 + ", " + i % 3 + ") of " + what, forge.code(i / 3, i % 3), want[i]);
        }
        Checks.dueNoElement("code(count, 0) of " + what, () -> forge.code(want.length / 3, 0));
    }

    private static void decodes() {
        due(Checks.bytes(""));
        due(Checks.bytes("a\u00e9\u20ac"), 97, 0, 1, 233, 1, 2, 8364, 3, 3);
        due(Checks.bytes(0xF0, 0x9F, 0x98, 0x80, 0), 0x1F600, 0, 4, 0, 4, 1);
        due(Checks.bytes(0xEF, 0xBF, 0xBD, 0xFF), 65533, 0, 3, 65533, 3, 1);
        due(Checks.bytes(0x7F, 0xC2, 0x80, 0xDF, 0xBF), 127, 0, 1, 128, 1, 2, 2047, 3, 2);
        due(Checks.bytes(0xE0, 0xA0, 0x80, 0xEF, 0xBF, 0xBF), 2048, 0, 3, 65535, 3, 3);
        due(Checks.bytes(0xF0, 0x90, 0x80, 0x80, 0xF4, 0x8F, 0xBF, 0xBF), 65536, 0, 4, 1114111, 4, 4);
        due(Checks.bytes(0xED, 0x9F, 0xBF, 0xEE, 0x80, 0x80), 55295, 0, 3, 57344, 3, 3);
    }

    /** At no place of the text a code of more than one byte begins. */
    static void dueNone(int... text) {
        int[] want = new int[3 * text.length];
        for (int i = 0; i < text.length; i++) {
            want[3 * i] = text[i] < 128 ? text[i] : 65533;
            want[3 * i + 1] = i;
            want[3 * i + 2] = 1;
        }
        due(Checks.bytes(text), want);
    }

    private static void decodesPlacesWithoutCode() {
        dueNone(0x80);
        dueNone(0xBF, 'a');
        dueNone(0xC3);
        dueNone(0xC3, 'a');
        dueNone(0xE2, 0x82);
        dueNone(0xE2, 0x82, 'a');
        dueNone(0xF0, 0x9F, 0x98);
        dueNone(0xF0, 0x9F, 0x98, 'a');
        dueNone(0xC0, 0x80);
        dueNone(0xC1, 0xBF);
        dueNone(0xE0, 0x80, 0x80);
        dueNone(0xE0, 0x9F, 0xBF);
        dueNone(0xF0, 0x80, 0x80, 0x80);
        dueNone(0xF0, 0x8F, 0xBF, 0xBF);
        dueNone(0xED, 0xA0, 0x80);
        dueNone(0xED, 0xBF, 0xBF);
        dueNone(0xF4, 0x90, 0x80, 0x80);
        dueNone(0xF5, 0x80, 0x80, 0x80);
        dueNone(0xF7, 0xBF, 0xBF, 0xBF);
        dueNone(0xF8, 0x88, 0x80, 0x80, 0x80);
        dueNone(0xFC, 0x84, 0x80, 0x80, 0x80, 0x80);
        dueNone(0xFE, 0xFF);
        due(Checks.bytes(0xE2, 0x82, 0xC3, 0xA9, 0xA9), 65533, 0, 1, 65533, 1, 1, 233, 2, 2, 65533, 4, 1);
        TextForge forge = Checks.fed(new TextForge(), "\u20acx");
        forge.end(2);
        dueCodes("a code that end cut off", forge, forge.decode(), 65533, 0, 1, 65533, 1, 1);
    }

    private static void decodesEveryCode() {
        TextForge forge = new TextForge();
        int tried = 0;
        for (int code = 0; code <= 1114111; code += code < 66000 ? 1 : 97) {
            if (isCode(code)) {
                forge = tried % OF_ONE_OBJECT == 0 ? new TextForge() : forge;
                tried++;
                byte[] text = utf8(code);
                Checks.fed(forge, text);
                boolean right = forge.decode() == 1 && forge.code(0, 0) == code
                        && forge.code(0, 1) == 0 && forge.code(0, 2) == text.length;
                Checks.due("decode of code " + code, right, true);
            }
        }
    }

    private static void decodesEveryPair() {
        TextForge forge = new TextForge();
        for (int pair = 0; pair < 65536; pair++) {
            forge = pair % OF_ONE_OBJECT == 0 ? new TextForge() : forge;
            int first = pair >> 8;
            int second = pair & 255;
            boolean isOne = first >= 0xC2 && first <= 0xDF && second >= 0x80 && second <= 0xBF;
            Checks.fed(forge, Checks.bytes(first, second));
            Checks.due("decode of pair " + pair, forge.decode(), isOne ? 1 : 2);
            Checks.due("code of pair " + pair, forge.code(0, 0),
                    isOne ? (first & 31) << 6 | second & 63 : first < 128 ? first : 65533);
        }
    }

    private static void noSuchCode() {
        TextForge forge = Checks.fed(new TextForge(), "abc");
        forge.decode();
        for (int k : new int[] {-1, 3, 4, Integer.MIN_VALUE, Integer.MAX_VALUE}) {
            for (int what = 0; what < 3; what++) {
                int part = what;
                Checks.dueNoElement("code(" + k + ", " + what + ")", () -> forge.code(k, part));
            }
        }
        for (int what : new int[] {-1, 3, Integer.MIN_VALUE, Integer.MAX_VALUE}) {
            Checks.dueNoElement("code(0, " + what + ")", () -> forge.code(0, what));
        }
        Checks.due("code(2, 2)", forge.code(2, 2), 1);
    }

    private static void latestDecoding() {
        TextForge forge = Checks.fed(new TextForge(), "abcdef");
        forge.decode();
        Checks.fed(forge, "\u00e9x");
        Checks.due("the decoding stays until the next", forge.code(5, 0), (int) 'f');
        dueCodes("a shorter one later", forge, forge.decode(), 233, 0, 2, 120, 2, 1);
        Checks.fed(forge, "xyz").format();
        forge.encode(1);
        Checks.due("other calls leave it", forge.code(0, 0), 233);
        dueCodes("an empty one later", forge, forge.decode());
        Checks.fed(forge, "qrs");
        dueCodes("a longer one later", forge, forge.decode(), 'q', 0, 1, 'r', 1, 1, 's', 2, 1);
    }

    private static void longTexts() {
        TextForge forge = Checks.fed(new TextForge(), Checks.times(0xFF, 4096));
        Checks.due("4096 places without code", forge.decode(), 4096);
        Checks.due("the last one's place", forge.code(4095, 1), 4095);
        Checks.due("the last one's bytes", forge.code(4095, 2), 1);
        Checks.dueNoElement("code(4096, 0)", () -> forge.code(4096, 0));
        Checks.fed(forge, Checks.bytes("\ud83d\ude00".repeat(1024)));
        Checks.due("1024 codes of four bytes", forge.decode(), 1024);
        Checks.due("the last one", forge.code(1023, 0), 0x1F600);
        Checks.due("its place", forge.code(1023, 1), 4092);
        Checks.due("its bytes", forge.code(1023, 2), 4);
        Checks.dueNoElement("code(1024, 1)", () -> forge.code(1024, 1));
    }
}
