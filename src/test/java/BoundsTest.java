/** Each sentence of the document that names a boundary case, by a test of its own; no promise is without one. */
final class BoundsTest {
    public static void main(String[] args) {
        int[] howMany = new int[43];
        Bounds.runAll(HandBounds.class, howMany);
        Bounds.runAll(StockBounds.class, howMany);
        Bounds.runAll(TextBounds.class, howMany);
        Bounds.runAll(LawBounds.class, howMany);
        Bounds.runAll(RateBounds.class, howMany);
        Bounds.runAll(SightBounds.class, howMany);
        Bounds.runAll(KnobBounds.class, howMany);
        Bounds.runAll(StormBounds.class, howMany);
        Bounds.runAll(ImageBounds.class, howMany);
        int tests = 0;
        for (int promise = 1; promise <= 42; promise++) {
            Bounds.due("tests of promise " + promise, howMany[promise] > 0);
            tests += howMany[promise];
        }
        System.out.println("BoundsTest: " + tests + " tests");
        Bounds.end("BoundsTest");
    }
}
