/** Each sentence of the document with its input at the boundary and the one beyond it. */
public final class BoundsTest {
    private BoundsTest() {
    }

    public static void main(String[] args) {
        CityBounds.look();
        StationBounds.look();
        RideBounds.look();
        TruckBounds.look();
        TimeBounds.look();
        ChangeBounds.look();
        Document.everythingIsCited();
        Check.end("BoundsTest");
    }
}
