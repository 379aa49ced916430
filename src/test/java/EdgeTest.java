/** Every sentence of the document that names a boundary case, by a test of its own. */
public final class EdgeTest {
    public static void main(String[] args) {
        EdgesOfText.hold();
        EdgesOfTerms.hold();
        EdgesOfFaults.hold();
        EdgesOfHours.hold();
        EdgesOfNow.hold();
        EdgesOfDoing.hold();
        EdgesOfAhead.hold();
        EdgesOfChoice.hold();
        EdgesOfSaying.hold();
        EdgesOfWear.hold();
        EdgesOfChance.hold();
        EdgesOfLimits.hold();
        Edge.end();
    }
}
