/** Each sentence of the document that names a bound has a test of its own, just inside the bound and just outside. */
public final class BoundsTest {
    public static void main(String[] args) {
        Bounds bounds = new Bounds();
        new BoundsOfUse(bounds).run();
        new BoundsOfTape(bounds).run();
        new BoundsOfShape(bounds).run();
        new BoundsOfFaults(bounds).run();
        new BoundsOfWords(bounds).run();
        new BoundsOfBook(bounds).run();
        new BoundsOfNames(bounds).run();
        new BoundsOfReadings(bounds).run();
        new BoundsOfOrder(bounds).run();
        new BoundsOfLooks(bounds).run();
        new BoundsOfKin(bounds).run();
        new BoundsOfTable(bounds).run();
        bounds.end();
    }
}
