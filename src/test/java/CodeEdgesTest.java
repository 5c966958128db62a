/** Promises 14 to 16 at their edges: encode, decode, code. */
final class CodeEdgesTest {
    private static final int LEAST_INT = Integer.MIN_VALUE;
    private static final int GREATEST_INT = Integer.MAX_VALUE;

    public static void main(String[] args) {
        encodeAtTheEdgesOfLengths();
        encodeOfWhatIsNone();
        whatEncodeLeaves();
        decodeOfAnEmptyText();
        decodeAtTheEdgesOfLengths();
        decodeOfCodesThatAreCutOff();
        decodeOfCodesInTooManyBytes();
        decodeOfWhatIsNoCode();
        decodeOfLongTexts();
        whatDecodeLeaves();
        codeBeforeAnyDecoding();
        codeAtItsEdges();
        codeOfTheLatestDecoding();
        Checks.finish("CodeEdgesTest");
    }

    private static void dueEncode(int code, int... want) {
        TextForge forge = new TextForge();
        Checks.due("encode(" + code + ")", forge.encode(code), want.length);
        Checks.dueResult("encode(" + code + ")", forge, Checks.bytes(want));
    }

    private static void encodeAtTheEdgesOfLengths() {
        Checks.promise(14, "a code as UTF-8, in as few bytes as can be");
        dueEncode(0, 0);
        dueEncode(1, 1);
        dueEncode(127, 0x7f);
        dueEncode(128, 0xc2, 0x80);
        dueEncode(2047, 0xdf, 0xbf);
        dueEncode(2048, 0xe0, 0xa0, 0x80);
        dueEncode(55295, 0xed, 0x9f, 0xbf);
        dueEncode(57344, 0xee, 0x80, 0x80);
        dueEncode(65533, 0xef, 0xbf, 0xbd);
        dueEncode(65535, 0xef, 0xbf, 0xbf);
        dueEncode(65536, 0xf0, 0x90, 0x80, 0x80);
        dueEncode(1114111, 0xf4, 0x8f, 0xbf, 0xbf);
    }

    private static void encodeOfWhatIsNone() {
        Checks.promise(14, "65533 for what is none");
        for (int none : new int[] {-1, -2, -65, 55296, 55297, 56319, 56320, 57342, 57343, 1114112, 1114113, 2097151,
            2097152, LEAST_INT, LEAST_INT + 65, GREATEST_INT}) {
            dueEncode(none, 0xef, 0xbf, 0xbd);
        }
    }

    private static void whatEncodeLeaves() {
        Checks.promise(14, "encode changes the result alone");
        for (int code : new int[] {65, -1}) {
            Filled filled = new Filled(16);
            filled.forge.encode(code);
            filled.dueNumber("encode(" + code + ")");
            filled.dueCodes("encode(" + code + ")");
            filled.dueArguments("encode(" + code + ")");
            filled.dueText("encode(" + code + ")");
        }
    }

    private static void decodeOfAnEmptyText() {
        Checks.promise(15, "decode of an empty text");
        TextForge forge = new TextForge();
        Checks.due("decode() of no text", forge.decode(), 0);
        Checks.dueNoElement("code(0, 0) behind it", () -> forge.code(0, 0));
        Checks.fed(forge, "abc");
        Checks.due("decode() of abc", forge.decode(), 3);
        Checks.due("decode() of what is used up", forge.decode(), 0);
        Checks.dueNoElement("code(0, 0) behind it", () -> forge.code(0, 0));
        Checks.fed(forge, "abc").end(0);
        Checks.due("decode() behind end(0)", forge.decode(), 0);
    }

    /** A number written by the pattern of UTF-8 in just so many bytes, be they enough or too many. */
    private static int[] inBytes(int number, int bytes) {
        int[] row = new int[bytes];
        for (int i = bytes - 1; i > 0; i--) {
            row[i] = 0x80 | number & 0x3f;
            number >>= 6;
        }
        row[0] = bytes == 1 ? number : 0xff << 8 - bytes & 0xff | number;
        return row;
    }

    private static void decodeAtTheEdgesOfLengths() {
        Checks.promise(15, "codes at the edges of UTF-8's lengths");
        int[] codes = {0, 1, 127, 128, 2047, 2048, 55295, 57344, 65533, 65535, 65536, 1114111};
        int[] bytes = {1, 1, 1, 2, 2, 3, 3, 3, 3, 3, 4, 4};
        for (int i = 0; i < codes.length; i++) {
            byte[] text = Checks.bytes(inBytes(codes[i], bytes[i]));
            CodesTest.due(text, codes[i], 0, bytes[i]);
            CodesTest.due(Checks.joined(text, text), codes[i], 0, bytes[i], codes[i], bytes[i], bytes[i]);
            CodesTest.due(Checks.joined(Checks.bytes("a"), text, Checks.bytes(0xff)),
                    'a', 0, 1, codes[i], 1, bytes[i], 65533, 1 + bytes[i], 1);
        }
    }

    private static void decodeOfCodesThatAreCutOff() {
        Checks.promise(15, "a place that is cut off: code 65533 of one byte");
        for (int code : new int[] {128, 233, 2047, 2048, 8364, 65533, 65535, 65536, 0x1f600, 1114111}) {
            int bytes = code < 2048 ? 2 : code < 65536 ? 3 : 4;
            int[] whole = inBytes(code, bytes);
            for (int kept = 1; kept < bytes; kept++) {
                int[] part = java.util.Arrays.copyOf(whole, kept);
                CodesTest.dueNone(part);
                dueCutOffBefore(part, 'a', 1, 'a');
                dueCutOffBefore(part, 233, 2, 0xc3, 0xa9);
                dueCutOffBefore(part, code, bytes, whole);
                dueCutOffBefore(part, 65533, 1, 0xff);
                dueCutOffBefore(part, 65533, 1, 0xc0);
                TextForge forge = Checks.fed(new TextForge(), Checks.bytes(whole));
                forge.end(kept);
                Checks.due("decode() of code " + code + " behind end(" + kept + ")", forge.decode(), kept);
            }
        }
    }

    private static void dueCutOffBefore(int[] part, int code, int bytes, int... next) {
        int[] want = new int[3 * part.length + 3];
        for (int i = 0; i < part.length; i++) {
            want[3 * i] = 65533;
            want[3 * i + 1] = i;
            want[3 * i + 2] = 1;
        }
        want[3 * part.length] = code;
        want[3 * part.length + 1] = part.length;
        want[3 * part.length + 2] = bytes;
        CodesTest.due(Checks.joined(Checks.bytes(part), Checks.bytes(next)), want);
    }

    private static void decodeOfCodesInTooManyBytes() {
        Checks.promise(15, "UTF-8 has it in as few bytes as can be: codes written in too many");
        int[][] edges = {{0, 1}, {1, 1}, {34, 1}, {127, 1}, {128, 2}, {2047, 2}, {2048, 3}, {65533, 3}, {65535, 3}};
        for (int[] edge : edges) {
            for (int bytes = edge[1] + 1; bytes <= 4; bytes++) {
                CodesTest.dueNone(inBytes(edge[0], bytes));
            }
        }
        for (int code : new int[] {0, 127, 2047, 65535, 65536, 1114111}) {
            CodesTest.dueNone(inBytes(code, 5));
            CodesTest.dueNone(inBytes(code, 6));
        }
    }

    private static void decodeOfWhatIsNoCode() {
        Checks.promise(15, "at a place of a text where no code begins: code 65533 of one byte");
        for (int none : new int[] {55296, 55297, 56319, 56320, 57342, 57343}) {
            CodesTest.dueNone(inBytes(none, 3));
        }
        for (int none : new int[] {1114112, 1114113, 0x13ffff, 0x140000, 0x1fffff}) {
            CodesTest.dueNone(inBytes(none, 4));
        }
        CodesTest.dueNone(0xed, 0xa0, 0xbd, 0xed, 0xb8, 0x80);
        for (int first = 0xf5; first < 256; first++) {
            for (int second : new int[] {0x80, 0x8f, 0x90, 0xbf}) {
                CodesTest.dueNone(first, second, 0x80, 0x80);
            }
        }
        for (int beside : new int[] {0x7f, 0xc0}) {
            CodesTest.dueNone(0xc3, beside);
            CodesTest.dueNone(0xe2, beside, 0x82);
            CodesTest.dueNone(0xe2, 0x82, beside);
            CodesTest.dueNone(0xf0, beside, 0x98, 0x80);
            CodesTest.dueNone(0xf0, 0x9f, beside, 0x80);
            CodesTest.dueNone(0xf0, 0x9f, 0x98, beside);
        }
        for (int value = 128; value < 256; value++) {
            CodesTest.dueNone(value);
            CodesTest.dueNone(value, 'a');
            CodesTest.dueNone(value, value);
        }
    }

    private static void decodeOfLongTexts() {
        Checks.promise(15, "a text of 4096 bytes");
        TextForge bytes = Checks.fed(new TextForge(), Checks.times(0x80, 4096));
        Checks.due("decode() of 4096 bytes at which no code begins", bytes.decode(), 4096);
        dueLast(bytes, 4095, 65533, 4095, 1);
        TextForge codes = Checks.fed(new TextForge(), Character.toString(0x10ffff).repeat(1024));
        Checks.due("decode() of 1024 codes of four bytes", codes.decode(), 1024);
        dueLast(codes, 1023, 0x10ffff, 4092, 4);
        TextForge cut = Checks.fed(new TextForge(), Checks.joined(Checks.times('a', 4094), Checks.bytes(0xe2, 0x82)));
        Checks.due("decode() of a code that is cut off at 4096 bytes", cut.decode(), 4096);
        dueLast(cut, 4095, 65533, 4095, 1);
    }

    private static void dueLast(TextForge forge, int k, int... want) {
        for (int what = 0; what < 3; what++) {
            int part = what;
            Checks.due("code(" + k + ", " + what + ")", forge.code(k, what), want[what]);
            Checks.dueNoElement("code(" + (k + 1) + ", " + what + ")", () -> forge.code(k + 1, part));
        }
    }

    private static void whatDecodeLeaves() {
        Checks.promise(15, "the text that is fed is used up; nothing else but the codes changes");
        Filled filled = new Filled(16);
        Checks.due("decode()", filled.forge.decode(), 4);
        Checks.due("end(1) behind decode()", filled.forge.end(1), false);
        filled.dueResult("decode()");
        filled.dueNumber("decode()");
        filled.dueArguments("decode()");
    }

    private static void codeBeforeAnyDecoding() {
        Checks.promise(16, "NoSuchElementException: there is no such one, before any decoding");
        for (int k : new int[] {-1, 0, 1, LEAST_INT, GREATEST_INT}) {
            for (int what : new int[] {-1, 0, 1, 2, 3}) {
                TextForge forge = Checks.fed(new TextForge(), "abc");
                Checks.dueNoElement("code(" + k + ", " + what + ")", () -> forge.code(k, what));
                Checks.due("end(3)", forge.end(3), true);
            }
        }
    }

    private static void codeAtItsEdges() {
        Checks.promise(16, "code at 0, at the last one, with what 0, 1, 2");
        TextForge forge = Checks.fed(new TextForge(), Checks.bytes('x', 0xc3, 0xa9, 0xff, 0xe2, 0x82, 0xac));
        Checks.due("decode()", forge.decode(), 4);
        int[] want = {'x', 0, 1, 233, 1, 2, 65533, 3, 1, 8364, 4, 3};
        for (int i = 0; i < want.length; i++) {
            Checks.due("code(" + i / 3 + ", " + i % 3 + ")", forge.code(i / 3, i % 3), want[i]);
        }
        Checks.promise(16, "NoSuchElementException: there is no such one");
        for (int k : new int[] {-1, -2, 4, 5, 7, 4096, LEAST_INT, GREATEST_INT}) {
            for (int what : new int[] {-1, 0, 1, 2, 3}) {
                Checks.dueNoElement("code(" + k + ", " + what + ")", () -> forge.code(k, what));
            }
        }
        Checks.promise(16, "NoSuchElementException: there is no such what");
        for (int what : new int[] {-1, -2, 3, 4, LEAST_INT, GREATEST_INT}) {
            for (int k = 0; k < 4; k++) {
                int one = k;
                Checks.dueNoElement("code(" + k + ", " + what + ")", () -> forge.code(one, what));
            }
        }
        Checks.promise(16, "a call that throws changes nothing");
        Filled filled = new Filled(16);
        Checks.dueNoElement("code(-1, 0)", () -> filled.forge.code(-1, 0));
        Checks.dueNoElement("code(2, 0)", () -> filled.forge.code(2, 0));
        Checks.dueNoElement("code(0, -1)", () -> filled.forge.code(0, -1));
        Checks.dueNoElement("code(0, 3)", () -> filled.forge.code(0, 3));
        filled.dueUnchanged("code that throws");
    }

    private static void codeOfTheLatestDecoding() {
        Checks.promise(16, "of the latest decoding");
        TextForge forge = Checks.fed(new TextForge(), "abcdef");
        forge.decode();
        Checks.fed(forge, "z");
        Checks.due("code(5, 0) before the next decoding", forge.code(5, 0), (int) 'f');
        Checks.due("decode() of a shorter one", forge.decode(), 1);
        Checks.due("code(0, 0)", forge.code(0, 0), (int) 'z');
        Checks.dueNoElement("code(1, 0)", () -> forge.code(1, 0));
        Checks.dueNoElement("code(5, 0)", () -> forge.code(5, 0));
        Checks.fed(forge, "\u20acbcdefgh");
        Checks.due("decode() of a longer one", forge.decode(), 8);
        Checks.due("code(7, 0)", forge.code(7, 0), (int) 'h');
        Checks.due("code(7, 1)", forge.code(7, 1), 9);
        Checks.due("decode() of an empty one", forge.decode(), 0);
        Checks.dueNoElement("code(0, 1)", () -> forge.code(0, 1));
    }
}
