/** Promises 4, 5 and 10: streets, their spans, and the places of numbers. */
final class StreetsTest {
    private static final Check CHECK = new Check("StreetsTest");

    public static void main(String[] args) {
        streets();
        spans();
        common();
        wrongInputs();
        CHECK.end();
    }

    private static void streets() {
        CompassRolls x = new CompassRolls();
        for (int i = 0; i < 12; i++) {
            CHECK.due("count of streets", i, x.count(0));
            CHECK.due("street()", i, x.street());
        }
        CHECK.illegalState("the 13th street", x::street);
        CHECK.due("count of streets", 12, x.count(0));
        CHECK.due("a street without spans", CompassRolls.NONE, x.placeOf(11, 1));
    }

    private static void spans() {
        CompassRolls x = new CompassRolls();
        x.place();
        x.place();
        x.street();
        x.street();
        CHECK.due("span(0, 5, 5, 1)", 1, x.span(0, 5, 5, 1));
        CHECK.due("span(0, 6, 999, 0)", 2, x.span(0, 6, 999, 0));
        CHECK.due("span(0, 1, 1, 1)", 3, x.span(0, 1, 1, 1));
        CHECK.due("of another street", 1, x.span(1, 1, 999, 1));
        CHECK.due("placeOf(0, 1)", 1, x.placeOf(0, 1));
        CHECK.due("placeOf(0, 2)", CompassRolls.NONE, x.placeOf(0, 2));
        CHECK.due("placeOf(0, 4)", CompassRolls.NONE, x.placeOf(0, 4));
        CHECK.due("placeOf(0, 5)", 1, x.placeOf(0, 5));
        CHECK.due("placeOf(0, 6)", 0, x.placeOf(0, 6));
        CHECK.due("placeOf(0, 999)", 0, x.placeOf(0, 999));
        CHECK.due("placeOf(1, 999)", 1, x.placeOf(1, 999));
        CHECK.due("the fourth span", 4, x.span(0, 2, 4, 0));
        CHECK.due("placeOf(0, 4)", 0, x.placeOf(0, 4));
        CHECK.illegalState("the fifth span", () -> x.span(0, 2, 2, 0));
    }

    private static void common() {
        CompassRolls x = new CompassRolls();
        x.place();
        x.street();
        x.span(0, 10, 20, 0);
        CHECK.illegalState("the same", () -> x.span(0, 10, 20, 0));
        CHECK.illegalState("into the beginning", () -> x.span(0, 1, 10, 0));
        CHECK.illegalState("into the end", () -> x.span(0, 20, 30, 0));
        CHECK.illegalState("inside", () -> x.span(0, 12, 13, 0));
        CHECK.illegalState("around", () -> x.span(0, 1, 999, 0));
        CHECK.due("nothing was told", CompassRolls.NONE, x.placeOf(0, 9));
        CHECK.due("ahead", 2, x.span(0, 1, 9, 0));
        CHECK.due("behind", 3, x.span(0, 21, 30, 0));
        CHECK.due("far behind", 4, x.span(0, 999, 999, 0));
        CHECK.illegalState("a fifth, free", () -> x.span(0, 500, 500, 0));
    }

    private static void wrongInputs() {
        CompassRolls x = new CompassRolls();
        CHECK.outOfBounds("span without a street", () -> x.span(0, 1, 1, 0));
        x.street();
        CHECK.outOfBounds("span without a place", () -> x.span(0, 1, 1, 0));
        x.place();
        for (int wrong : new int[] {-1, 1, Integer.MIN_VALUE, Integer.MAX_VALUE}) {
            CHECK.outOfBounds("span of street " + wrong, () -> x.span(wrong, 0, 0, 0));
            CHECK.outOfBounds("span at place " + wrong, () -> x.span(0, 0, 0, wrong));
            CHECK.outOfBounds("placeOf street " + wrong, () -> x.placeOf(wrong, 0));
        }
        for (int wrong : new int[] {0, 1000, -1, Integer.MIN_VALUE, Integer.MAX_VALUE}) {
            CHECK.illegalArgument("span from " + wrong, () -> x.span(0, wrong, 999, 0));
            CHECK.illegalArgument("span to " + wrong, () -> x.span(0, 1, wrong, 0));
            CHECK.illegalArgument("placeOf number " + wrong, () -> x.placeOf(0, wrong));
        }
        CHECK.illegalArgument("span backwards", () -> x.span(0, 5, 4, 0));
        CHECK.due("nothing was told", 1, x.span(0, 1, 999, 0));
        CHECK.illegalArgument("out of range ahead of in common", () -> x.span(0, 5, 4, 0));
    }
}
