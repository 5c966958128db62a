import java.io.ByteArrayOutputStream;
import java.nio.ByteBuffer;
import java.nio.IntBuffer;
import java.nio.charset.StandardCharsets;
import java.util.Arrays;
import java.util.NoSuchElementException;
import java.util.stream.IntStream;

/** What the tests share: comparing, counting what is wrong, feeding and reading texts. */
final class Checks {
    /** A call that may throw. */
    interface Call {
        Object run();
    }

    // A long result is looked at here and there alone: nothing is promised of an object behind its
    // 512th call, and feeding 4096 bytes takes 206 calls.
    private static final int WHOLE = 128;
    private static final int AT_EACH_END = 40;
    private static final int BETWEEN = 61;

    private static int wrong = 0;
    private static String promise = "";

    static {
        Thread.setDefaultUncaughtExceptionHandler((thread, thrown) -> tellThrown(thrown));
    }

    private Checks() {
    }

    /** What a test did not look for ends it, but not without the promise that it was about. */
    private static void tellThrown(Throwable thrown) {
        System.out.println(promise + "threw " + thrown);
        thrown.printStackTrace(System.out);
        System.exit(1);
    }

    /** Says to which promise the checks from here on belong, and which of its cases they look at. */
    static void promise(int number, String words) {
        promise = "promise " + number + " (" + words + "): ";
    }

    /** Says what the checks from here on are about, where it is no promise. */
    static void about(String words) {
        promise = words + ": ";
    }

    static void due(String what, Object got, Object want) {
        if (!want.equals(got)) {
            wrong++;
            System.out.println(promise + inShort(what) + ": answered " + got + ", due is " + want);
        }
    }

    private static String inShort(String what) {
        int length = what.length();
        return length <= WHOLE ? what : what.substring(0, AT_EACH_END) + " .. " + what.substring(length - AT_EACH_END);
    }

    static void dueThrow(String what, Class<? extends RuntimeException> want, Call call) {
        due(what, outcome(call), want.getSimpleName());
    }

    static void dueNoElement(String what, Call call) {
        dueThrow(what, NoSuchElementException.class, call);
    }

    /** The answer, or the name of the exception that is thrown. */
    static Object outcome(Call call) {
        try {
            return call.run();
        } catch (RuntimeException e) {
            return e.getClass().getSimpleName();
        }
    }

    /** The result must have just these bytes, by size() and by byteOf(). */
    static void dueResult(String what, TextForge forge, byte[] want) {
        due(what + ", size()", forge.size(), want.length);
        StringBuilder got = new StringBuilder();
        StringBuilder wanted = new StringBuilder();
        for (int i : placesToLookAt(want.length)) {
            got.append(shown(outcome(() -> forge.byteOf(i))));
            wanted.append(shown(want[i] & 255));
        }
        due(what + ", bytes", got.toString(), wanted.toString());
        dueNoElement(what + ", byteOf(size)", () -> forge.byteOf(want.length));
    }

    static void dueResult(String what, TextForge forge, String want) {
        dueResult(what, forge, bytes(want));
    }

    private static int[] placesToLookAt(int length) {
        return IntStream.range(0, length)
                .filter(i -> length <= WHOLE || i < AT_EACH_END || i >= length - AT_EACH_END || i % BETWEEN == 0)
                .toArray();
    }

    private static String shown(Object value) {
        boolean isLetter = value instanceof Integer b && b >= 32 && b < 127;
        return isLetter ? Character.toString((Integer) value) : "<" + value + ">";
    }

    /** The format, with these arguments, must make just these bytes. */
    static void dueFormat(byte[] format, byte[] want, Object... arguments) {
        TextForge forge = fed(with(arguments), format);
        String what = "format " + new String(format, StandardCharsets.ISO_8859_1);
        due(what, forge.format(), want.length);
        dueResult(what, forge, want);
    }

    static void dueFormat(String format, byte[] want, Object... arguments) {
        dueFormat(bytes(format), want, arguments);
    }

    static void dueFormat(String format, String want, Object... arguments) {
        dueFormat(bytes(format), bytes(want), arguments);
    }

    static byte[] bytes(String text) {
        return text.getBytes(StandardCharsets.UTF_8);
    }

    static byte[] bytes(int... values) {
        byte[] row = new byte[values.length];
        for (int i = 0; i < row.length; i++) {
            row[i] = (byte) values[i];
        }
        return row;
    }

    static byte[] times(int value, int times) {
        byte[] row = new byte[times];
        Arrays.fill(row, (byte) value);
        return row;
    }

    static byte[] joined(byte[]... parts) {
        ByteArrayOutputStream all = new ByteArrayOutputStream();
        for (byte[] part : parts) {
            all.writeBytes(part);
        }
        return all.toByteArray();
    }

    /** Feeds these bytes to an object whose fed text is empty; the odd part first, so 4096 fit. */
    static TextForge fed(TextForge forge, byte[] text) {
        int at = text.length % 20;
        if (at > 0) {
            feedTwenty(forge, Arrays.copyOf(text, 20));
            due("end", forge.end(at), true);
        }
        for (; at < text.length; at += 20) {
            feedTwenty(forge, Arrays.copyOfRange(text, at, at + 20));
        }
        return forge;
    }

    static TextForge fed(TextForge forge, String text) {
        return fed(forge, bytes(text));
    }

    private static void feedTwenty(TextForge forge, byte[] twenty) {
        IntBuffer ints = ByteBuffer.wrap(twenty).asIntBuffer();
        due("feed", forge.feed(ints.get(0), ints.get(1), ints.get(2), ints.get(3), ints.get(4)), true);
    }

    /** A new object with these arguments. */
    static TextForge with(Object... arguments) {
        TextForge forge = new TextForge();
        for (Object argument : arguments) {
            give(forge, argument);
        }
        return forge;
    }

    /** Gives one argument: Long or Integer with sign, Unsigned, Boolean, byte[], String or Thing. */
    private static void give(TextForge forge, Object argument) {
        if (argument instanceof Long v) {
            forge.number(v, true);
        } else if (argument instanceof Integer v) {
            forge.number(v, true);
        } else if (argument instanceof Unsigned v) {
            forge.number(v.bits(), false);
        } else if (argument instanceof Boolean v) {
            forge.truth(v);
        } else if (argument instanceof byte[] v) {
            fed(forge, v).text();
        } else if (argument instanceof String v) {
            fed(forge, v).text();
        } else if (argument instanceof Thing v) {
            forge.thing(v.sort());
        } else {
            throw new IllegalArgumentException("no argument: " + argument);
        }
    }

    record Unsigned(long bits) {
    }

    record Thing(int sort) {
    }

    static void finish(String name) {
        System.out.println(name + (wrong == 0 ? ": all answers are as due" : ": " + wrong + " answers are not as due"));
        if (wrong != 0) {
            System.exit(1);
        }
    }
}
