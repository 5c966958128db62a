import java.util.EnumSet;
import java.util.Set;

/** Promises 2 to 18: a call changes what its promise says, and leaves all else as it was. */
final class LeavesTest {
    private enum Part { TEXT, ARGUMENTS, RESULT, NUMBER, CODES }

    private static final Set<Part> NOTHING = EnumSet.noneOf(Part.class);
    private static final Set<Part> TEXT = EnumSet.of(Part.TEXT);
    private static final Set<Part> ARGUMENTS = EnumSet.of(Part.ARGUMENTS);
    private static final Set<Part> RESULT = EnumSet.of(Part.RESULT);

    /** One call, or more of one sort. */
    private interface Use {
        void on(TextForge forge);
    }

    public static void main(String[] args) {
        theTextThatIsFed();
        theArguments();
        theResult();
        theNumberAndTheCodes();
        callsThatOnlyAnswer();
        Checks.finish("LeavesTest");
    }

    private static void due(int promise, String call, Set<Part> changed, Use use) {
        for (Part part : EnumSet.complementOf(EnumSet.copyOf(changed))) {
            Checks.promise(promise, "nothing but what it says changes");
            for (int arguments : new int[] {0, 1, 15}) {
                Filled filled = new Filled(arguments);
                use.on(filled.forge);
                duePart(part, call, filled);
            }
        }
    }

    private static void duePart(Part part, String call, Filled filled) {
        switch (part) {
            case TEXT -> filled.dueText(call);
            case ARGUMENTS -> filled.dueArguments(call);
            case RESULT -> filled.dueResult(call);
            case NUMBER -> filled.dueNumber(call);
            case CODES -> filled.dueCodes(call);
        }
    }

    private static void theTextThatIsFed() {
        due(2, "feed", TEXT, forge -> forge.feed(1, 2, 3, 4, 5));
        due(3, "end(2)", TEXT, forge -> forge.end(2));
        due(3, "end(0)", TEXT, forge -> forge.end(0));
    }

    private static void theArguments() {
        due(4, "number with sign", ARGUMENTS, forge -> forge.number(-7, true));
        due(4, "number without sign", ARGUMENTS, forge -> forge.number(-7, false));
        due(5, "truth", ARGUMENTS, forge -> forge.truth(true));
        due(6, "text", EnumSet.of(Part.ARGUMENTS, Part.TEXT), TextForge::text);
        due(7, "thing(-1)", ARGUMENTS, forge -> forge.thing(-1));
        due(7, "thing(8)", ARGUMENTS, forge -> forge.thing(8));
        due(8, "clear", ARGUMENTS, TextForge::clear);
    }

    private static void theResult() {
        due(9, "format", EnumSet.of(Part.TEXT, Part.ARGUMENTS, Part.RESULT), TextForge::format);
        due(10, "join(true)", EnumSet.of(Part.ARGUMENTS, Part.RESULT), forge -> forge.join(true));
        due(10, "join(false)", EnumSet.of(Part.ARGUMENTS, Part.RESULT), forge -> forge.join(false));
        due(11, "quote", EnumSet.of(Part.TEXT, Part.RESULT), TextForge::quote);
        due(14, "encode(65)", RESULT, forge -> forge.encode(65));
        due(14, "encode(-1)", RESULT, forge -> forge.encode(-1));
    }

    private static void theNumberAndTheCodes() {
        due(12, "parse that is true", EnumSet.of(Part.TEXT, Part.NUMBER), forge -> forge.parse(36));
        due(12, "parse that is false", EnumSet.of(Part.TEXT, Part.NUMBER), forge -> forge.parse(10));
        due(15, "decode", EnumSet.of(Part.TEXT, Part.CODES), TextForge::decode);
    }

    private static void callsThatOnlyAnswer() {
        due(13, "parsed", NOTHING, TextForge::parsed);
        for (int i = 0; i < 6; i++) {
            int at = i;
            due(16, "code(" + at / 3 + ", " + at % 3 + ")", NOTHING, forge -> forge.code(at / 3, at % 3));
        }
        due(17, "size", NOTHING, TextForge::size);
        for (int i = 0; i < 3; i++) {
            int at = i;
            due(18, "byteOf(" + at + ")", NOTHING, forge -> forge.byteOf(at));
        }
    }
}
