/** Each sentence of the document that names a boundary case, promise by promise, by a test of its own. */
public final class Boundaries {
    private Boundaries() {
    }

    public static void main(String[] args) {
        BoundsOfPeople.run();
        BoundsOfLaw.run();
        BoundsOfThought.run();
        BoundsOfThaw.run();
        BoundsOfSigned.run();
        BoundsOfDeeds.run();
        BoundsOfActs.run();
        BoundsOfShelves.run();
        Sentences.end();
    }
}
