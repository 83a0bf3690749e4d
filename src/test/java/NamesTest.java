/** Promises 6 to 9: names, names that are the same, and what a name and a number lead to. */
final class NamesTest {
    private static final Check CHECK = new Check("NamesTest");
    private static final int NONE = CompassRolls.NONE;
    private static final int DOUBT = CompassRolls.DOUBT;

    public static void main(String[] args) {
        namings();
        hundredNamings();
        sameNames();
        today();
        oldNames();
        oldNamesOfTheSame();
        retold();
        spansToldLater();
        wrongInputs();
        CHECK.end();
    }

    /** Streets at one place, each with the numbers 1 to 100 + its own number. */
    private static CompassRolls withStreets(int streets) {
        CompassRolls x = new CompassRolls();
        x.place();
        for (int i = 0; i < streets; i++) {
            x.street();
            x.span(i, 1, 100 + i, 0);
        }
        return x;
    }

    private static void leads(CompassRolls x, int name, int number, int want) {
        String call = "(" + name + ", " + number + ")";
        CHECK.due("leads" + call, want, x.leads(name, number));
        CHECK.due("leadsAnew" + call, want, x.leadsAnew(name, number));
    }

    private static void namings() {
        CompassRolls x = withStreets(2);
        CHECK.due("the first name", NONE, x.name(0, 29));
        CHECK.due("another", 29, x.name(0, 0));
        CHECK.illegalState("it bears it", () -> x.name(0, 0));
        CHECK.due("two namings", 2, x.count(1));
        CHECK.due("another street may bear it", NONE, x.name(1, 0));
        CHECK.due("an old one again", 0, x.name(0, 29));
        x.same(29, 5);
        CHECK.due("one that is the same is another name", 29, x.name(0, 5));
        CHECK.due("five namings", 5, x.count(1));
    }

    private static void hundredNamings() {
        CompassRolls x = withStreets(1);
        for (int i = 0; i < 100; i++) {
            CHECK.due("naming " + i, i == 0 ? NONE : (i - 1) % 2, x.name(0, i % 2));
        }
        CHECK.illegalState("the 101st naming", () -> x.name(0, 0));
        CHECK.illegalState("it bears it", () -> x.name(0, 1));
        CHECK.outOfBounds("no such name ahead of 100 namings", () -> x.name(0, 30));
        CHECK.due("100 namings", 100, x.count(1));
        leads(x, 1, 1, 0);
        leads(x, 0, 1, 0);
        leads(x, 2, 1, NONE);
    }

    private static void sameNames() {
        CompassRolls x = withStreets(2);
        CHECK.due("a name is the same as itself", false, x.same(7, 7));
        CHECK.due("same(0, 1)", true, x.same(0, 1));
        CHECK.due("same(0, 1) again", false, x.same(0, 1));
        CHECK.due("same(1, 0)", false, x.same(1, 0));
        CHECK.due("same(2, 29)", true, x.same(2, 29));
        CHECK.due("same(29, 1)", true, x.same(29, 1));
        CHECK.due("same(0, 2) by the others", false, x.same(0, 2));
        x.name(0, 29);
        leads(x, 0, 5, 0);
        leads(x, 3, 5, NONE);
        x.name(1, 0);
        leads(x, 2, 5, DOUBT);
        leads(x, 2, 101, 1);
    }

    private static void today() {
        CompassRolls x = withStreets(3);
        x.name(0, 4);
        leads(x, 4, 100, 0);
        leads(x, 4, 101, NONE);
        x.name(1, 4);
        leads(x, 4, 100, DOUBT);
        leads(x, 4, 101, 1);
        x.name(2, 4);
        leads(x, 4, 101, DOUBT);
        leads(x, 4, 102, 2);
        leads(x, 4, 103, NONE);
        x.name(1, 6);
        x.name(2, 6);
        leads(x, 4, 1, 0);
        leads(x, 6, 1, DOUBT);
    }

    private static void oldNames() {
        CompassRolls x = withStreets(4);
        x.name(3, 1);
        x.name(2, 1);
        x.name(1, 1);
        x.name(3, 2);
        x.name(1, 3);
        leads(x, 1, 1, 2);
        x.name(2, 4);
        leads(x, 1, 1, 1);
        leads(x, 1, 102, 2);
        leads(x, 1, 103, 3);
        leads(x, 1, 104, NONE);
        x.pass(1);
        x.name(0, 1);
        leads(x, 1, 1, 0);
        leads(x, 1, 101, 1);
        x.name(3, 1);
        x.pass(1);
        x.name(3, 5);
        leads(x, 1, 1, 0);
        leads(x, 1, 101, 3);
        x.pass(1);
        x.name(0, 5);
        leads(x, 1, 1, 0);
        leads(x, 1, 101, 3);
        leads(x, 2, 1, 3);
        leads(x, 5, 1, DOUBT);
    }

    private static void oldNamesOfTheSame() {
        CompassRolls x = withStreets(3);
        x.name(0, 10);
        x.name(1, 11);
        x.pass(5);
        x.name(0, 20);
        x.pass(5);
        x.name(1, 21);
        leads(x, 10, 1, 0);
        leads(x, 11, 1, 1);
        x.same(10, 11);
        leads(x, 10, 1, 1);
        leads(x, 11, 1, 1);
        x.pass(5);
        x.name(0, 22);
        leads(x, 10, 1, 1);
        x.same(20, 11);
        leads(x, 10, 1, 0);
        leads(x, 20, 101, 1);
        x.same(10, 21);
        leads(x, 20, 100, 1);
        x.name(2, 20);
        leads(x, 11, 100, DOUBT);
        leads(x, 11, 102, 2);
    }

    private static void retold() {
        CompassRolls x = withStreets(2);
        x.name(0, 1);
        x.name(0, 2);
        x.name(0, 1);
        leads(x, 2, 1, 0);
        leads(x, 1, 1, 0);
        x.pass(3);
        x.name(1, 1);
        x.name(1, 2);
        leads(x, 1, 1, 0);
        x.name(0, 3);
        leads(x, 1, 1, 0);
        x.name(1, 4);
        leads(x, 2, 1, 1);
        leads(x, 1, 101, 1);
    }

    private static void spansToldLater() {
        CompassRolls x = withStreets(2);
        x.name(0, 1);
        x.name(1, 1);
        leads(x, 1, 500, NONE);
        x.span(1, 400, 600, 0);
        leads(x, 1, 500, 1);
        x.name(1, 2);
        x.span(0, 500, 500, 0);
        leads(x, 1, 500, 0);
        leads(x, 1, 501, 1);
    }

    private static void wrongInputs() {
        CompassRolls x = withStreets(1);
        x.name(0, 0);
        for (int wrong : new int[] {-1, 30, Integer.MIN_VALUE, Integer.MAX_VALUE}) {
            CHECK.outOfBounds("name " + wrong, () -> x.name(0, wrong));
            CHECK.outOfBounds("same " + wrong, () -> x.same(wrong, 0) ? 1 : 0);
            CHECK.outOfBounds("same to " + wrong, () -> x.same(0, wrong) ? 1 : 0);
            CHECK.outOfBounds("the same wrong one", () -> x.same(wrong, wrong) ? 1 : 0);
            CHECK.outOfBounds("leads of " + wrong, () -> x.leads(wrong, 0));
            CHECK.outOfBounds("leadsAnew of " + wrong, () -> x.leadsAnew(wrong, 1000));
        }
        for (int wrong : new int[] {-1, 1, Integer.MIN_VALUE, Integer.MAX_VALUE}) {
            CHECK.outOfBounds("name of street " + wrong, () -> x.name(wrong, 0));
        }
        for (int wrong : new int[] {0, 1000, -1, Integer.MIN_VALUE, Integer.MAX_VALUE}) {
            CHECK.illegalArgument("leads to number " + wrong, () -> x.leads(0, wrong));
            CHECK.illegalArgument("leadsAnew to number " + wrong, () -> x.leadsAnew(0, wrong));
        }
        CHECK.due("one naming", 1, x.count(1));
    }
}
