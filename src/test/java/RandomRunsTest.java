import java.util.Random;

/** All promises: runs of up to 512 random calls, the class against the model. The seeds are fixed. */
final class RandomRunsTest {
    private static final int RUNS = 6000;
    // One result more than this may be looked at, which stays within the 512 calls of an object.
    private static final int CALLS = 460;
    private static final int PLACES = 40;
    private static final String FORMAT_BYTES = "%%%%%%%-+00123459dxXbocsqtvz!a|";
    private static final String NUMBER_BYTES = "+-0011123456789abcxyzAFZ";
    private static final int[] UTF8_BYTES = {
        0, 7, 10, 13, 31, 34, 39, 65, 92, 126, 127, 0x80, 0x8F, 0x90, 0x9F, 0xA0, 0xBF, 0xC0, 0xC1, 0xC2,
        0xDF, 0xE0, 0xED, 0xEE, 0xEF, 0xF0, 0xF1, 0xF4, 0xF5, 0xF8, 0xFF, 0x80, 0xBF, 0xA0, 0x90, 0xBF};
    private static final long[] NUMBERS = {
        0, 1, -1, 7, 10, 13, 31, 32, 34, 39, 92, 127, 128, 2047, 2048, 55295, 55296, 57343, 57344, 65533, 65535,
        65536, 1114111, 1114112, 4294967296L, Long.MAX_VALUE, Long.MIN_VALUE, Long.MIN_VALUE + 1};

    private final Random random;
    private final TextForge forge = new TextForge();
    private final Model model = new Model();
    private final String name;
    private final int feeds;
    private int calls = 0;

    private RandomRunsTest(int seed) {
        random = new Random(seed);
        name = "run " + seed + ", call ";
        feeds = seed % 10 == 0 ? 60 : 4;
    }

    public static void main(String[] args) {
        for (int seed = 0; seed < RUNS; seed++) {
            new RandomRunsTest(seed).run();
        }
        Checks.finish("RandomRunsTest");
    }

    private void run() {
        while (calls < CALLS) {
            String what = name + calls;
            int kind = random.nextInt(26 + feeds);
            if (kind >= 26) {
                int[] more = twenty();
                same(what + " feed", () -> forge.feed(more[0], more[1], more[2], more[3], more[4]),
                        () -> model.feed(more[0], more[1], more[2], more[3], more[4]));
            } else if (kind < 13) {
                give(what, kind);
            } else {
                use(what, kind);
            }
        }
    }

    private int[] twenty() {
        int sort = random.nextInt(4);
        byte[] row = new byte[20];
        for (int i = 0; i < 20; i++) {
            row[i] = (byte) switch (sort) {
                case 0, 1 -> FORMAT_BYTES.charAt(random.nextInt(FORMAT_BYTES.length()));
                case 2 -> NUMBER_BYTES.charAt(random.nextInt(NUMBER_BYTES.length()));
                default -> UTF8_BYTES[random.nextInt(UTF8_BYTES.length)];
            };
        }
        int[] ints = new int[5];
        java.nio.ByteBuffer.wrap(row).asIntBuffer().get(ints);
        return ints;
    }

    private long someNumber() {
        return switch (random.nextInt(3)) {
            case 0 -> NUMBERS[random.nextInt(NUMBERS.length)];
            case 1 -> random.nextLong() >> random.nextInt(64);
            default -> random.nextInt(300);
        };
    }

    private void give(String what, int kind) {
        boolean truth = random.nextBoolean();
        switch (kind) {
            case 0, 1, 2, 3 -> {
                long v = someNumber();
                same(what + " number " + v + " " + truth, () -> forge.number(v, truth), () -> model.number(v, truth));
            }
            case 4 -> same(what + " truth", () -> forge.truth(truth), () -> model.truth(truth));
            case 5, 6, 7 -> same(what + " text", forge::text, model::text);
            case 8 -> {
                int sort = random.nextInt(13) - 3;
                same(what + " thing " + sort, () -> forge.thing(sort), () -> model.thing(sort));
            }
            case 9 -> {
                if (random.nextInt(8) == 0) {
                    calls++;
                    forge.clear();
                    model.clear();
                }
            }
            default -> {
                int n = random.nextInt(50) - 2;
                same(what + " end " + n, () -> forge.end(n), () -> model.end(n));
            }
        }
    }

    private void use(String what, int kind) {
        boolean truth = random.nextBoolean();
        switch (kind) {
            case 13, 14 -> {
                same(what + " format", forge::format, model::format);
                result(what + " format");
            }
            case 15 -> {
                same(what + " join", () -> forge.join(truth), () -> model.join(truth));
                result(what + " join");
            }
            case 16 -> {
                same(what + " quote", forge::quote, model::quote);
                result(what + " quote");
            }
            case 17, 18 -> {
                int base = random.nextInt(40) - 1;
                same(what + " parse " + base, () -> forge.parse(base), () -> model.parse(base));
            }
            case 19 -> same(what + " parsed", forge::parsed, model::parsed);
            case 20 -> {
                int code = (int) someNumber();
                same(what + " encode " + code, () -> forge.encode(code), () -> model.encode(code));
                result(what + " encode");
            }
            case 21 -> same(what + " decode", forge::decode, model::decode);
            case 22, 23 -> {
                int k = random.nextInt(30) - 2;
                int part = random.nextInt(5) - 1;
                same(what + " code", () -> forge.code(k, part), () -> model.code(k, part));
            }
            case 24 -> same(what + " size", forge::size, model::size);
            default -> {
                int i = random.nextInt(60) - 2;
                same(what + " byteOf", () -> forge.byteOf(i), () -> model.byteOf(i));
            }
        }
    }

    /** Compares the result at some places, and behind its end. */
    private void result(String what) {
        same(what + ", size", forge::size, model::size);
        int size = model.size();
        for (int n = 0; n < Math.min(size, PLACES); n++) {
            int i = size <= PLACES ? n : random.nextInt(size);
            same(what + ", byteOf " + i, () -> forge.byteOf(i), () -> model.byteOf(i));
        }
        same(what + ", byteOf " + size, () -> forge.byteOf(size), () -> model.byteOf(size));
    }

    private void same(String what, Checks.Call got, Checks.Call want) {
        calls++;
        Checks.due(what, Checks.outcome(got), Checks.outcome(want));
    }
}
