/** Promises 1, 2, 3 and 11: a new object, places, and ways. */
final class PlacesTest {
    private static final Check CHECK = new Check("PlacesTest");

    public static void main(String[] args) {
        newObject();
        places();
        ways();
        manyWays();
        wrongInputs();
        CHECK.end();
    }

    private static void newObject() {
        CompassRolls x = new CompassRolls();
        for (int what = 0; what <= 8; what++) {
            CHECK.due("count(" + what + ") of nothing", 0, x.count(what));
        }
        for (int name = 0; name < 30; name++) {
            CHECK.due("leads of nothing", CompassRolls.NONE, x.leads(name, 1));
        }
        for (int name = 1; name < 30; name++) {
            CHECK.due("no names are the same at first", true, x.same(0, name));
        }
        CHECK.due("the first minute", 1, x.pass(1));
        CompassRolls other = new CompassRolls();
        CHECK.due("another object counts its own minutes", 2, other.pass(2));
        CHECK.due("place of another object", 0, other.place());
        CHECK.outOfBounds("the first one has none", () -> x.way(0, 0));
    }

    private static void places() {
        CompassRolls x = new CompassRolls();
        for (int i = 0; i < 12; i++) {
            CHECK.due("place()", i, x.place());
        }
        CHECK.illegalState("the 13th place", x::place);
        CHECK.due("way(11, 11)", 0, x.way(11, 11));
        CHECK.outOfBounds("way to a 13th place", () -> x.way(11, 12));
    }

    private static void ways() {
        CompassRolls x = new CompassRolls();
        for (int i = 0; i < 5; i++) {
            x.place();
        }
        CHECK.due("way without one", CompassRolls.NONE, x.way(0, 1));
        CHECK.due("join(0, 1, 60)", 1, x.join(0, 1, 60));
        CHECK.due("way there", 60, x.way(0, 1));
        CHECK.due("way back", 60, x.way(1, 0));
        CHECK.due("join(2, 1, 1)", 2, x.join(2, 1, 1));
        CHECK.due("way over 1", 61, x.way(0, 2));
        CHECK.due("a shorter way told later", 3, x.join(2, 0, 7));
        CHECK.due("straight", 7, x.way(0, 2));
        CHECK.due("round", 8, x.way(0, 1));
        CHECK.due("a longer way between the same", 4, x.join(0, 2, 9));
        CHECK.due("still the shorter one", 7, x.way(2, 0));
        CHECK.due("a shorter way between the same", 5, x.join(0, 2, 2));
        CHECK.due("the shorter one", 2, x.way(2, 0));
        CHECK.due("another part", 6, x.join(3, 4, 5));
        CHECK.due("no way into the other part", CompassRolls.NONE, x.way(1, 4));
        CHECK.due("joined parts", 7, x.join(4, 1, 10));
        CHECK.due("way through all", 2 + 1 + 10 + 5, x.way(0, 3));
        CHECK.due("way from a place to itself", 0, x.way(3, 3));
    }

    private static void manyWays() {
        CompassRolls x = new CompassRolls();
        for (int i = 0; i < 12; i++) {
            x.place();
        }
        for (int i = 0; i < 11; i++) {
            CHECK.due("join in a row", i + 1, x.join(i, i + 1, 60));
        }
        CHECK.due("the longest way", 660, x.way(11, 0));
        for (int i = 11; i < 24; i++) {
            CHECK.due("join", i + 1, x.join(0, 11, 61 - i));
        }
        CHECK.illegalState("the 25th way", () -> x.join(0, 5, 1));
        CHECK.due("nothing is changed by it", 300, x.way(0, 5));
        CHECK.due("the ring", 38 + 300, x.way(0, 6));
        CHECK.illegalArgument("out of range ahead of the 25th", () -> x.join(0, 5, 61));
        CHECK.illegalArgument("the same ahead of the 25th", () -> x.join(5, 5, 1));
    }

    private static void wrongInputs() {
        CompassRolls x = new CompassRolls();
        x.place();
        x.place();
        int[] wrong = {-1, 2, Integer.MIN_VALUE, Integer.MAX_VALUE};
        for (int place : wrong) {
            CHECK.outOfBounds("join from " + place, () -> x.join(place, 0, 1));
            CHECK.outOfBounds("join to " + place, () -> x.join(0, place, 1));
            CHECK.outOfBounds("no such places ahead of the same, out of range", () -> x.join(place, place, 0));
            CHECK.outOfBounds("way from " + place, () -> x.way(place, 0));
            CHECK.outOfBounds("way to " + place, () -> x.way(0, place));
        }
        for (int minutes : new int[] {0, 61, -5, Integer.MIN_VALUE, Integer.MAX_VALUE}) {
            CHECK.illegalArgument("join of " + minutes, () -> x.join(0, 1, minutes));
        }
        CHECK.illegalArgument("join of the same", () -> x.join(1, 1, 5));
        CHECK.due("nothing was joined", 1, x.join(0, 1, 1));
    }
}
