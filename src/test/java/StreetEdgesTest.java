/** The edges of promises 4 street, 5 span and 10 placeOf, a sentence each. */
final class StreetEdgesTest {
    private static final Check CHECK = new Check("StreetEdgesTest");
    private static final int NONE = CompassRolls.NONE;

    public static void main(String[] args) {
        twelveStreets();
        spanStreets();
        spanPlaces();
        spanFrom();
        spanTo();
        fourSpans();
        refusedSpansAreNotCounted();
        numberInCommon();
        numbersOfOtherStreets();
        spanThrowsInOrder();
        placeOfStreets();
        placeOfNumbers();
        placeOfNothing();
        CHECK.end();
    }

    private static void twelveStreets() {
        CompassRolls x = new CompassRolls();
        for (int i = 0; i < 12; i++) {
            CHECK.due("street", i, x.street());
            CHECK.due("count", i + 1, x.count(0));
        }
        CHECK.illegalState("the 13th street", x::street);
        CHECK.illegalState("the 13th street again", x::street);
        CHECK.due("count", 12, x.count(0));
        CHECK.due("the 12th is there", NONE, x.name(11, 0));
        CHECK.outOfBounds("the 13th is not", () -> x.name(12, 0));
    }

    private static CompassRolls bare(int streets, int places) {
        CompassRolls x = Town.places(places);
        for (int i = 0; i < streets; i++) {
            x.street();
        }
        return x;
    }

    private static void spanStreets() {
        CompassRolls x = bare(3, 1);
        CHECK.due("the lowest street", 1, x.span(0, 1, 2, 0));
        CHECK.due("the highest street", 1, x.span(2, 1, 2, 0));
        for (int street : Check.beyond(0, 2)) {
            CHECK.outOfBounds("span of street " + street, () -> x.span(street, 5, 6, 0));
        }
    }

    private static void spanPlaces() {
        CompassRolls x = bare(1, 3);
        CHECK.due("at the lowest place", 1, x.span(0, 1, 1, 0));
        CHECK.due("at the highest place", 2, x.span(0, 2, 2, 2));
        for (int place : Check.beyond(0, 2)) {
            CHECK.outOfBounds("span at place " + place, () -> x.span(0, 3, 3, place));
        }
        CHECK.due("placeOf(0, 1)", 0, x.placeOf(0, 1));
        CHECK.due("placeOf(0, 2)", 2, x.placeOf(0, 2));
        CHECK.due("placeOf(0, 3)", NONE, x.placeOf(0, 3));
    }

    private static void spanFrom() {
        CompassRolls x = bare(1, 1);
        CHECK.due("from 1", 1, x.span(0, 1, 5, 0));
        CHECK.due("from 999", 2, x.span(0, 999, 999, 0));
        for (int from : Check.beyond(1, 999)) {
            CHECK.illegalArgument("from " + from + " to 999", () -> x.span(0, from, 999, 0));
            CHECK.illegalArgument("from " + from + " to itself", () -> x.span(0, from, from, 0));
        }
    }

    private static void spanTo() {
        CompassRolls x = bare(2, 1);
        CHECK.due("to from", 1, x.span(0, 500, 500, 0));
        CHECK.due("to 999", 2, x.span(0, 501, 999, 0));
        CHECK.due("from 1 to 999", 1, x.span(1, 1, 999, 0));
        CHECK.illegalArgument("to the one ahead of from", () -> x.span(0, 400, 399, 0));
        CHECK.illegalArgument("to 1 from 2", () -> x.span(0, 2, 1, 0));
        CHECK.illegalArgument("from 999 to 998", () -> x.span(0, 999, 998, 0));
        for (int to : Check.beyond(1, 999)) {
            CHECK.illegalArgument("from 1 to " + to, () -> x.span(0, 1, to, 0));
        }
    }

    private static void fourSpans() {
        CompassRolls x = bare(2, 1);
        for (int i = 1; i <= 4; i++) {
            CHECK.due("span " + i, i, x.span(0, 10 * i, 10 * i, 0));
        }
        CHECK.illegalState("the fifth span", () -> x.span(0, 50, 50, 0));
        CHECK.illegalState("the fifth span, with a number in common", () -> x.span(0, 40, 40, 0));
        CHECK.due("it has no number of the fifth", NONE, x.placeOf(0, 50));
        CHECK.due("another street has spans of its own", 1, x.span(1, 50, 50, 0));
    }

    private static void refusedSpansAreNotCounted() {
        CompassRolls x = bare(1, 1);
        x.span(0, 10, 20, 0);
        for (int i = 0; i < 5; i++) {
            CHECK.illegalState("in common", () -> x.span(0, 15, 15, 0));
            CHECK.illegalArgument("backwards", () -> x.span(0, 9, 8, 0));
            CHECK.outOfBounds("nowhere", () -> x.span(0, 1, 1, 1));
        }
        CHECK.due("the second span", 2, x.span(0, 1, 9, 0));
        CHECK.due("the third span", 3, x.span(0, 21, 30, 0));
        CHECK.due("the fourth span", 4, x.span(0, 999, 999, 0));
    }

    private static void numberInCommon() {
        CompassRolls x = bare(1, 2);
        x.span(0, 100, 200, 1);
        x.span(0, 300, 300, 1);
        int[][] common = {
            {100, 200}, {100, 100}, {200, 200}, {150, 150}, {99, 100}, {1, 100}, {200, 201}, {200, 299},
            {99, 201}, {1, 999}, {101, 199}, {300, 300}, {299, 300}, {300, 301}, {299, 301}, {201, 999}, {1, 299},
        };
        for (int[] span : common) {
            CHECK.illegalState(span[0] + " to " + span[1], () -> x.span(0, span[0], span[1], 0));
        }
        CHECK.due("99 is of none", NONE, x.placeOf(0, 99));
        CHECK.due("201 is of none", NONE, x.placeOf(0, 201));
        CHECK.due("100 stays where it was", 1, x.placeOf(0, 100));
        CHECK.due("all between both", 3, x.span(0, 201, 299, 0));
        CHECK.due("all ahead of both", 4, x.span(0, 1, 99, 0));
        CompassRolls y = bare(1, 1);
        y.span(0, 100, 200, 0);
        CHECK.due("all behind it", 2, y.span(0, 201, 999, 0));
        CHECK.illegalState("the greatest number again", () -> y.span(0, 999, 999, 0));
    }

    private static void numbersOfOtherStreets() {
        CompassRolls x = bare(12, 1);
        for (int street = 0; street < 12; street++) {
            CHECK.due("the same numbers", 1, x.span(street, 1, 999, 0));
        }
    }

    private static void spanThrowsInOrder() {
        CompassRolls x = bare(1, 1);
        x.span(0, 10, 20, 0);
        CHECK.outOfBounds("no street, out of range", () -> x.span(1, 0, 0, 0));
        CHECK.outOfBounds("no place, out of range", () -> x.span(0, 5, 4, 1));
        CHECK.outOfBounds("no place, from is out of range", () -> x.span(0, 0, 5, 1));
        CHECK.outOfBounds("no place, to is out of range", () -> x.span(0, 5, 1000, 1));
        CHECK.outOfBounds("no place, in common", () -> x.span(0, 10, 20, 1));
        CHECK.outOfBounds("no street, in common with another", () -> x.span(-1, 10, 20, 0));
        CHECK.illegalArgument("from is out of range, in common", () -> x.span(0, 0, 10, 0));
        CHECK.illegalArgument("to is out of range, in common", () -> x.span(0, 20, 1000, 0));
        CHECK.illegalArgument("backwards, in common", () -> x.span(0, 20, 10, 0));
        x.span(0, 30, 30, 0);
        x.span(0, 31, 31, 0);
        x.span(0, 32, 32, 0);
        CHECK.outOfBounds("no place ahead of the fifth", () -> x.span(0, 33, 33, 1));
        CHECK.illegalArgument("out of range ahead of the fifth", () -> x.span(0, 33, 1000, 0));
    }

    private static void placeOfStreets() {
        CompassRolls x = Town.streets(12);
        CHECK.due("of the lowest street", 0, x.placeOf(0, 1));
        CHECK.due("of the highest street", 0, x.placeOf(11, 1));
        for (int street : Check.beyond(0, 11)) {
            CHECK.outOfBounds("placeOf street " + street, () -> x.placeOf(street, 1));
            CHECK.outOfBounds("and number 0", () -> x.placeOf(street, 0));
            CHECK.outOfBounds("and number 1000", () -> x.placeOf(street, 1000));
        }
    }

    private static void placeOfNumbers() {
        CompassRolls x = Town.streets(1);
        CHECK.due("placeOf(0, 1)", 0, x.placeOf(0, 1));
        CHECK.due("placeOf(0, 999)", 0, x.placeOf(0, 999));
        for (int number : Check.beyond(1, 999)) {
            CHECK.illegalArgument("placeOf number " + number, () -> x.placeOf(0, number));
        }
    }

    private static void placeOfNothing() {
        CompassRolls x = bare(2, 4);
        CHECK.due("a street without spans", NONE, x.placeOf(0, 1));
        CHECK.due("and its greatest number", NONE, x.placeOf(0, 999));
        x.span(0, 10, 20, 3);
        x.span(0, 40, 40, 2);
        x.span(0, 21, 30, 1);
        int[][] numbers = {{1, NONE}, {9, NONE}, {10, 3}, {20, 3}, {21, 1}, {30, 1}, {31, NONE}, {39, NONE},
            {40, 2}, {41, NONE}, {999, NONE}};
        for (int[] number : numbers) {
            CHECK.due("placeOf(0, " + number[0] + ")", number[1], x.placeOf(0, number[0]));
            CHECK.due("placeOf(1, " + number[0] + ")", NONE, x.placeOf(1, number[0]));
        }
    }
}
