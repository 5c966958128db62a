import java.nio.charset.StandardCharsets;
import java.util.Arrays;
import java.util.NoSuchElementException;

/** What the tests share: comparing, counting what is wrong, feeding and reading texts. */
final class Checks {
    /** A call that may throw. */
    interface Call {
        Object run();
    }

    private static int wrong = 0;

    private Checks() {
    }

    static void due(String what, Object got, Object want) {
        if (!want.equals(got)) {
            wrong++;
            System.out.println(what + ": answered " + got + ", due is " + want);
        }
    }

    static void dueThrow(String what, Class<? extends RuntimeException> want, Call call) {
        due(what, outcome(call), want.getSimpleName());
    }

    static void dueNoElement(String what, Call call) {
        dueThrow(what, NoSuchElementException.class, call);
    }

    /** The answer, or the name of the exception that is thrown. */
    static Object outcome(Call call) {
        try {
            return call.run();
        } catch (RuntimeException e) {
            return e.getClass().getSimpleName();
        }
    }

    /** The result must have just these bytes, by size() and by byteOf(). */
    static void dueResult(String what, TextForge forge, byte[] want) {
        due(what + ", size()", forge.size(), want.length);
        due(what + ", bytes", shown(resultOf(forge)), shown(want));
        dueNoElement(what + ", byteOf(size)", () -> forge.byteOf(want.length));
    }

    static void dueResult(String what, TextForge forge, String want) {
        dueResult(what, forge, bytes(want));
    }

    static byte[] resultOf(TextForge forge) {
        byte[] result = new byte[forge.size()];
        for (int i = 0; i < result.length; i++) {
            int value = forge.byteOf(i);
            if (value < 0 || value > 255) {
                due("byteOf(" + i + ") within 0 .. 255", value, "a byte");
            }
            result[i] = (byte) value;
        }
        return result;
    }

    private static String shown(byte[] row) {
        StringBuilder text = new StringBuilder();
        for (byte value : row) {
            int b = value & 255;
            if (b >= 32 && b < 127) {
                text.append((char) b);
            } else {
                text.append(String.format("<%02x>", b));
            }
        }
        return text.toString();
    }

    static byte[] bytes(String text) {
        return text.getBytes(StandardCharsets.UTF_8);
    }

    static byte[] bytes(int... values) {
        byte[] row = new byte[values.length];
        for (int i = 0; i < row.length; i++) {
            row[i] = (byte) values[i];
        }
        return row;
    }

    static byte[] times(int value, int times) {
        byte[] row = new byte[times];
        Arrays.fill(row, (byte) value);
        return row;
    }

    static byte[] joined(byte[]... parts) {
        java.io.ByteArrayOutputStream all = new java.io.ByteArrayOutputStream();
        for (byte[] part : parts) {
            all.writeBytes(part);
        }
        return all.toByteArray();
    }

    /** Feeds these bytes to an object whose fed text is empty; the odd part first, so 4096 fit. */
    static TextForge fed(TextForge forge, byte[] text) {
        int at = text.length % 20;
        if (at > 0) {
            feedTwenty(forge, Arrays.copyOf(text, 20));
            due("end", forge.end(at), true);
        }
        for (; at < text.length; at += 20) {
            feedTwenty(forge, Arrays.copyOfRange(text, at, at + 20));
        }
        return forge;
    }

    static TextForge fed(TextForge forge, String text) {
        return fed(forge, bytes(text));
    }

    private static void feedTwenty(TextForge forge, byte[] twenty) {
        java.nio.IntBuffer ints = java.nio.ByteBuffer.wrap(twenty).asIntBuffer();
        due("feed", forge.feed(ints.get(0), ints.get(1), ints.get(2), ints.get(3), ints.get(4)), true);
    }

    /** Gives one argument: Long with sign, Unsigned, Boolean, byte[], String or Thing. */
    static void give(TextForge forge, Object argument) {
        if (argument instanceof Long v) {
            forge.number(v, true);
        } else if (argument instanceof Integer v) {
            forge.number(v, true);
        } else if (argument instanceof Unsigned v) {
            forge.number(v.bits(), false);
        } else if (argument instanceof Boolean v) {
            forge.truth(v);
        } else if (argument instanceof byte[] v) {
            fed(forge, v).text();
        } else if (argument instanceof String v) {
            fed(forge, v).text();
        } else if (argument instanceof Thing v) {
            forge.thing(v.sort());
        } else {
            throw new IllegalArgumentException("no argument: " + argument);
        }
    }

    record Unsigned(long bits) {
    }

    record Thing(int sort) {
    }

    static void finish(String name) {
        System.out.println(name + (wrong == 0 ? ": all answers are as due" : ": " + wrong + " answers are not as due"));
        if (wrong != 0) {
            System.exit(1);
        }
    }
}
