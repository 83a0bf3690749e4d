/** The edges of promises 2 place, 3 join and 11 way, a sentence each. */
final class PlaceEdgesTest {
    private static final Check CHECK = new Check("PlaceEdgesTest");
    private static final int NONE = CompassRolls.NONE;

    public static void main(String[] args) {
        twelvePlaces();
        thirteenthPlace();
        joinPlaces();
        joinMinutes();
        joinTheSame();
        twentyFourWays();
        refusedWaysAreNotCounted();
        severalWaysBetweenTheSame();
        bothWaysRound();
        wayPlaces();
        wayToItself();
        noWay();
        shortestWay();
        longestWay();
        CHECK.end();
    }

    private static void twelvePlaces() {
        CompassRolls x = new CompassRolls();
        for (int i = 0; i < 12; i++) {
            CHECK.due("place", i, x.place());
        }
        CHECK.due("the last one is there", 0, x.way(11, 11));
    }

    private static void thirteenthPlace() {
        CompassRolls x = Town.places(12);
        CHECK.illegalState("the 13th place", x::place);
        CHECK.illegalState("the 13th place again", x::place);
        CHECK.outOfBounds("it is not there", () -> x.way(12, 12));
        CHECK.outOfBounds("nothing joins it", () -> x.join(0, 12, 1));
    }

    private static void joinPlaces() {
        CompassRolls x = Town.places(3);
        CHECK.due("the lowest and the highest place", 1, x.join(0, 2, 1));
        CHECK.due("the highest and the lowest place", 2, x.join(2, 0, 1));
        for (int place : Check.beyond(0, 2)) {
            CHECK.outOfBounds("join(" + place + ", 0)", () -> x.join(place, 0, 1));
            CHECK.outOfBounds("join(0, " + place + ")", () -> x.join(0, place, 1));
            CHECK.outOfBounds("neither is there, both are the same", () -> x.join(place, place, 1));
            CHECK.outOfBounds("join(" + place + ", 0) of 0 minutes", () -> x.join(place, 0, 0));
            CHECK.outOfBounds("join(0, " + place + ") of 61 minutes", () -> x.join(0, place, 61));
        }
    }

    private static void joinMinutes() {
        CompassRolls x = Town.places(3);
        CHECK.due("join of 1 minute", 1, x.join(0, 1, 1));
        CHECK.due("join of 60 minutes", 2, x.join(1, 2, 60));
        CHECK.due("way of 1 minute", 1, x.way(0, 1));
        CHECK.due("way of 60 minutes", 60, x.way(1, 2));
        for (int minutes : Check.beyond(1, 60)) {
            CHECK.illegalArgument("join of " + minutes, () -> x.join(0, 2, minutes));
        }
        CHECK.due("still the way over 1", 61, x.way(0, 2));
    }

    private static void joinTheSame() {
        CompassRolls x = Town.places(3);
        for (int place = 0; place < 3; place++) {
            int same = place;
            CHECK.illegalArgument("join(" + same + ", " + same + ")", () -> x.join(same, same, 1));
            CHECK.due("way to itself", 0, x.way(place, place));
        }
    }

    private static void twentyFourWays() {
        CompassRolls x = Town.places(12);
        for (int i = 0; i < 24; i++) {
            CHECK.due("join", i + 1, x.join(i % 12, (i + 1 + i / 12) % 12, 24 - i));
        }
        CHECK.illegalState("the 25th way", () -> x.join(0, 6, 1));
        CHECK.illegalState("the 25th way, of those that are", () -> x.join(0, 1, 1));
        CHECK.illegalArgument("the 25th way to itself", () -> x.join(0, 0, 1));
        CHECK.illegalArgument("the 25th way of 0 minutes", () -> x.join(0, 6, 0));
        CHECK.illegalArgument("the 25th way of 61 minutes", () -> x.join(0, 6, 61));
        CHECK.outOfBounds("the 25th way from -1", () -> x.join(-1, 6, 1));
        CHECK.outOfBounds("the 25th way to 12, of 0 minutes", () -> x.join(0, 12, 0));
        CHECK.due("the 24th way stands", 1, x.way(11, 1));
    }

    private static void refusedWaysAreNotCounted() {
        CompassRolls x = Town.places(2);
        for (int i = 0; i < 30; i++) {
            CHECK.illegalArgument("join of 0 minutes", () -> x.join(0, 1, 0));
            CHECK.outOfBounds("join to 2", () -> x.join(0, 2, 1));
        }
        CHECK.due("the first way", 1, x.join(0, 1, 1));
    }

    private static void severalWaysBetweenTheSame() {
        CompassRolls x = Town.places(2);
        for (int i = 1; i <= 24; i++) {
            CHECK.due("join again", i, x.join(i % 2, 1 - i % 2, 61 - i));
            CHECK.due("the shortest of them", 61 - i, x.way(0, 1));
        }
        CompassRolls y = Town.places(2);
        y.join(0, 1, 7);
        CHECK.due("the same again", 2, y.join(0, 1, 7));
        CHECK.due("a longer one", 3, y.join(0, 1, 8));
        CHECK.due("the shortest of them", 7, y.way(1, 0));
    }

    private static void bothWaysRound() {
        CompassRolls x = Town.places(3);
        x.join(2, 1, 4);
        x.join(0, 1, 5);
        for (int from = 0; from < 3; from++) {
            for (int to = 0; to < from; to++) {
                CHECK.due("there as back", x.way(from, to), x.way(to, from));
            }
        }
        CHECK.due("over 1", 9, x.way(0, 2));
    }

    private static void wayPlaces() {
        CompassRolls x = Town.places(12);
        CHECK.due("way(0, 11)", NONE, x.way(0, 11));
        CHECK.due("way(11, 0)", NONE, x.way(11, 0));
        for (int place : Check.beyond(0, 11)) {
            CHECK.outOfBounds("way(" + place + ", 0)", () -> x.way(place, 0));
            CHECK.outOfBounds("way(11, " + place + ")", () -> x.way(11, place));
            CHECK.outOfBounds("way(" + place + ", " + place + ")", () -> x.way(place, place));
        }
        CompassRolls y = Town.places(1);
        CHECK.outOfBounds("the next place is not there yet", () -> y.way(0, 1));
        y.place();
        CHECK.due("now it is", NONE, y.way(0, 1));
    }

    private static void wayToItself() {
        CompassRolls x = Town.places(12);
        for (int place = 0; place < 12; place++) {
            CHECK.due("without ways", 0, x.way(place, place));
        }
        for (int place = 1; place < 12; place++) {
            x.join(0, place, 1);
        }
        for (int place = 0; place < 12; place++) {
            CHECK.due("with ways", 0, x.way(place, place));
        }
    }

    private static void noWay() {
        CompassRolls x = Town.places(5);
        x.join(0, 1, 1);
        x.join(2, 3, 1);
        CHECK.due("between two parts", NONE, x.way(1, 2));
        CHECK.due("to a place without ways", NONE, x.way(0, 4));
        CHECK.due("from a place without ways", NONE, x.way(4, 3));
        x.join(3, 0, 60);
        CHECK.due("the parts are joined", 62, x.way(1, 2));
        CHECK.due("still none", NONE, x.way(2, 4));
        x.place();
        CHECK.due("to a new place", NONE, x.way(0, 5));
    }

    /** Ways in the order that leaves the longest chain to be closed last, and a way round that is as long. */
    private static void shortestWay() {
        CompassRolls x = Town.places(6);
        x.join(0, 1, 10);
        x.join(4, 5, 10);
        x.join(2, 3, 10);
        CHECK.due("not yet", NONE, x.way(0, 5));
        x.join(1, 2, 10);
        x.join(3, 4, 10);
        CHECK.due("through all", 50, x.way(0, 5));
        x.join(0, 5, 51);
        CHECK.due("a longer one straight", 50, x.way(0, 5));
        x.join(5, 0, 50);
        CHECK.due("one as long", 50, x.way(0, 5));
        x.join(5, 0, 49);
        CHECK.due("a shorter one", 49, x.way(0, 5));
        CHECK.due("round to the neighbour", 40, x.way(1, 5));
        x.join(5, 0, 1);
        CHECK.due("round to the neighbour by the new one", 11, x.way(1, 5));
        CHECK.due("round to the next", 21, x.way(2, 5));
        CHECK.due("round the other side", 20, x.way(3, 5));
    }

    private static void longestWay() {
        CompassRolls x = Town.places(12);
        for (int i = 10; i >= 0; i--) {
            x.join(i, i + 1, 60);
        }
        CHECK.due("11 ways of 60 minutes", 660, x.way(0, 11));
        CHECK.due("11 ways of 60 minutes back", 660, x.way(11, 0));
    }
}
