/**
 * Each sentence of the document that names a boundary case, with a test beside it: the least and the greatest that is
 * taken, the ones beyond, nothing there yet, full, numbers that go round, and ERRORS in the order in which they are
 * asked. At the end no sentence of 'What it is', the Terms and promises 1 to 41 may be left that no test has quoted.
 */
public final class BoundsTest {
    public static void main(String[] args) {
        FirstLines.run();
        GlassBounds.run();
        PeopleBounds.run();
        TextBounds.run();
        HourBounds.run();
        LookBounds.run();
        ThoughtBounds.run();
        VoiceBounds.run();
        SheetBounds.run();
        KeptBounds.run();
        Refused.run();
        for (int section = 0; section < Doc.sections(); section++) {
            Due.isText(Doc.name(section) + ", without a test", Doc.unquoted(section), "");
        }
        Due.end();
    }
}
