/** The edges of promises 6 name, 7 same, 8 leads and 9 leadsAnew, a sentence each. */
final class NameEdgesTest {
    private static final Check CHECK = new Check("NameEdgesTest");
    private static final int NONE = CompassRolls.NONE;
    private static final int DOUBT = CompassRolls.DOUBT;

    public static void main(String[] args) {
        nameStreets();
        nameNames();
        namesOfNamelessStreets();
        noneAtFirst();
        borneAlready();
        hundredNamings();
        refusedNamingsAreNotCounted();
        nameThrowsInOrder();
        sameNames();
        sameInPairs();
        sameToItself();
        sameByOthers();
        allTheSame();
        sameWheneverBorne();
        leadsNames();
        leadsNumbers();
        fromItsMinuteOn();
        perhapsInThatMinute();
        oneOrMore();
        allStreetsInDoubt();
        endsOfSpans();
        oldNameOnlyIfNone();
        bearerWithoutTheNumber();
        ceasedLatest();
        ceasedInTheSameMinute();
        ceasedTwice();
        ceasedOneOfTheSame();
        ceasedInMinuteZeroAndTheLast();
        allNamingsFromTheFirstOn();
        CHECK.end();
    }

    private static void leads(CompassRolls x, int name, int number, int want) {
        String call = "(" + name + ", " + number + ")";
        CHECK.due("leads" + call, want, x.leads(name, number));
        CHECK.due("leadsAnew" + call, want, x.leadsAnew(name, number));
    }

    private static void nameStreets() {
        CompassRolls x = Town.streets(3);
        CHECK.due("the lowest street", NONE, x.name(0, 1));
        CHECK.due("the highest street", NONE, x.name(2, 1));
        for (int street : Check.beyond(0, 2)) {
            CHECK.outOfBounds("name of street " + street, () -> x.name(street, 1));
            CHECK.outOfBounds("and no name", () -> x.name(street, 30));
        }
        CHECK.due("two namings", 2, x.count(1));
    }

    private static void nameNames() {
        CompassRolls x = Town.streets(1);
        CHECK.due("the lowest name", NONE, x.name(0, 0));
        leads(x, 0, 1, 0);
        CHECK.due("the highest name", 0, x.name(0, 29));
        leads(x, 29, 1, 0);
        CHECK.due("the lowest one again", 29, x.name(0, 0));
        for (int name : Check.beyond(0, 29)) {
            CHECK.outOfBounds("name " + name, () -> x.name(0, name));
        }
        CHECK.due("the name is still", 0, x.name(0, 1));
    }

    /** NONE and DOUBT are no names, not even those of a street that bears none. */
    private static void namesOfNamelessStreets() {
        CompassRolls x = Town.streets(2);
        for (int name : new int[] {NONE, DOUBT, 30}) {
            CHECK.outOfBounds("name " + name, () -> x.name(0, name));
            CHECK.outOfBounds("leads of " + name, () -> x.leads(name, 1));
            CHECK.outOfBounds("leadsAnew of " + name, () -> x.leadsAnew(name, 1));
            CHECK.outOfBounds("same(" + name + ", 0)", () -> x.same(name, 0) ? 1 : 0);
        }
        CHECK.due("no naming", 0, x.count(1));
        CHECK.due("none before", NONE, x.name(0, 0));
    }

    private static void noneAtFirst() {
        CompassRolls x = Town.streets(12);
        for (int name = 0; name < 30; name++) {
            leads(x, name, 1, NONE);
        }
        for (int street = 0; street < 12; street++) {
            CHECK.due("none before", NONE, x.name(street, 5));
        }
    }

    private static void borneAlready() {
        CompassRolls x = Town.streets(2);
        x.name(0, 0);
        CHECK.illegalState("the name 0", () -> x.name(0, 0));
        x.name(0, 29);
        CHECK.illegalState("the name 29", () -> x.name(0, 29));
        x.pass(1);
        CHECK.illegalState("a minute later", () -> x.name(0, 29));
        CHECK.due("another street may", NONE, x.name(1, 29));
        x.same(28, 29);
        CHECK.due("one that is the same is another one", 29, x.name(0, 28));
        CHECK.due("an old one is told anew", 28, x.name(0, 0));
        CHECK.due("five namings", 5, x.count(1));
    }

    private static void hundredNamings() {
        CompassRolls x = Town.streets(12);
        for (int i = 0; i < 100; i++) {
            int before = i < 12 ? NONE : (i - 12) % 30;
            CHECK.due("naming " + i, before, x.name(i % 12, i % 30));
            CHECK.due("count", i + 1, x.count(1));
        }
        CHECK.illegalState("the 101st", () -> x.name(0, 29));
        CHECK.illegalState("the 101st of another street", () -> x.name(11, 0));
        CHECK.illegalState("the one that it bears", () -> x.name(3, 99 % 30));
        CHECK.due("count", 100, x.count(1));
        leads(x, 99 % 30, 1, 3);
        CompassRolls y = Town.streets(12);
        for (int i = 0; i < 99; i++) {
            y.name(i % 11, i % 30);
        }
        CHECK.due("a first name for the last street", NONE, y.name(11, 7));
        CHECK.illegalState("no second one", () -> y.name(11, 8));
    }

    private static void refusedNamingsAreNotCounted() {
        CompassRolls x = Town.streets(1);
        x.name(0, 0);
        for (int i = 0; i < 110; i++) {
            CHECK.illegalState("it bears it", () -> x.name(0, 0));
        }
        for (int i = 0; i < 99; i++) {
            CHECK.due("naming", i % 2, x.name(0, 1 - i % 2));
        }
        CHECK.due("count", 100, x.count(1));
        CHECK.illegalState("the 101st", () -> x.name(0, 2));
    }

    private static void nameThrowsInOrder() {
        CompassRolls x = Town.streets(1);
        for (int i = 0; i < 100; i++) {
            x.name(0, i % 2);
        }
        CHECK.outOfBounds("no street ahead of 100 namings", () -> x.name(1, 0));
        CHECK.outOfBounds("no street ahead of 100 namings", () -> x.name(-1, 0));
        CHECK.outOfBounds("no name ahead of 100 namings", () -> x.name(0, 30));
        CHECK.outOfBounds("no name ahead of 100 namings", () -> x.name(0, -1));
    }

    private static void sameNames() {
        CompassRolls x = new CompassRolls();
        CHECK.due("the lowest and the highest", true, x.same(0, 29));
        CHECK.due("not anew", false, x.same(0, 29));
        CHECK.due("nor the other way round", false, x.same(29, 0));
        for (int name : Check.beyond(0, 29)) {
            CHECK.outOfBounds("same(" + name + ", 0)", () -> x.same(name, 0) ? 1 : 0);
            CHECK.outOfBounds("same(29, " + name + ")", () -> x.same(29, name) ? 1 : 0);
            CHECK.outOfBounds("same(" + name + ", " + name + ")", () -> x.same(name, name) ? 1 : 0);
        }
        CHECK.due("the others are not the same", true, x.same(28, 1));
    }

    private static void sameInPairs() {
        for (int name = 0; name < 30; name++) {
            for (int other = 0; other < 30; other++) {
                CompassRolls x = Town.streets(1);
                x.name(0, other);
                boolean two = name != other;
                CHECK.due("leads ahead", two ? NONE : 0, x.leads(name, 1));
                CHECK.due("same(" + name + ", " + other + ")", two, x.same(name, other));
                CHECK.due("again", false, x.same(name, other));
                CHECK.due("the other way round", false, x.same(other, name));
                leads(x, name, 1, 0);
                leads(x, other, 1, 0);
                int third = 0;
                while (third == name || third == other) {
                    third++;
                }
                leads(x, third, 1, NONE);
            }
        }
    }

    private static void sameToItself() {
        CompassRolls x = new CompassRolls();
        for (int name = 0; name < 30; name++) {
            CHECK.due("same(" + name + ", " + name + ")", false, x.same(name, name));
        }
        CHECK.due("two of them", true, x.same(3, 4));
        CHECK.due("one of them", false, x.same(3, 3));
    }

    private static void sameByOthers() {
        CompassRolls x = new CompassRolls();
        x.same(1, 2);
        x.same(3, 4);
        x.same(5, 6);
        CHECK.due("two pairs by their ends", true, x.same(2, 3));
        CHECK.due("the other ends", false, x.same(1, 4));
        CHECK.due("the other way round", false, x.same(3, 1));
        CHECK.due("the third pair is not", true, x.same(6, 1));
        for (int name = 1; name <= 6; name++) {
            CHECK.due("all six", false, x.same(name, 7 - name));
        }
        CHECK.due("a seventh is not", true, x.same(7, 4));
        CompassRolls y = Town.streets(1);
        y.name(0, 1);
        y.same(1, 2);
        y.same(3, 4);
        leads(y, 4, 1, NONE);
        y.same(4, 2);
        for (int name = 1; name <= 4; name++) {
            leads(y, name, 1, 0);
        }
        leads(y, 0, 1, NONE);
        leads(y, 5, 1, NONE);
    }

    private static void allTheSame() {
        CompassRolls x = Town.streets(1);
        x.name(0, 29);
        for (int name = 0; name < 29; name++) {
            CHECK.due("same", true, x.same(name, name + 1));
        }
        for (int name = 0; name < 30; name++) {
            CHECK.due("all are", false, x.same(0, name));
            leads(x, name, 1, 0);
        }
    }

    private static void sameWheneverBorne() {
        CompassRolls x = Town.streets(2);
        x.name(0, 1);
        x.pass(5);
        x.name(0, 2);
        x.pass(5);
        leads(x, 3, 1, NONE);
        x.same(3, 1);
        leads(x, 3, 1, 0);
        x.name(1, 3);
        leads(x, 1, 1, 1);
        x.same(2, 1);
        leads(x, 1, 1, DOUBT);
    }

    private static void leadsNames() {
        CompassRolls x = Town.streets(2);
        x.name(0, 0);
        x.name(1, 29);
        leads(x, 0, 1, 0);
        leads(x, 29, 1, 1);
        for (int name : Check.beyond(0, 29)) {
            CHECK.outOfBounds("leads of " + name, () -> x.leads(name, 1));
            CHECK.outOfBounds("leadsAnew of " + name, () -> x.leadsAnew(name, 1));
            CHECK.outOfBounds("leads of " + name + ", no number", () -> x.leads(name, 0));
            CHECK.outOfBounds("leadsAnew of " + name + ", no number", () -> x.leadsAnew(name, 1000));
        }
    }

    private static void leadsNumbers() {
        CompassRolls x = Town.streets(1);
        x.name(0, 4);
        leads(x, 4, 1, 0);
        leads(x, 4, 999, 0);
        for (int number : Check.beyond(1, 999)) {
            CHECK.illegalArgument("leads to " + number, () -> x.leads(4, number));
            CHECK.illegalArgument("leadsAnew to " + number, () -> x.leadsAnew(4, number));
            CHECK.illegalArgument("of a name that nothing bears", () -> x.leads(5, number));
            CHECK.illegalArgument("of a name that nothing bears", () -> x.leadsAnew(5, number));
        }
    }

    private static void fromItsMinuteOn() {
        CompassRolls x = Town.streets(2);
        x.pass(7);
        leads(x, 1, 1, NONE);
        x.name(0, 1);
        leads(x, 1, 1, 0);
        x.pass(1);
        leads(x, 1, 1, 0);
        x.name(1, 2);
        x.name(0, 2);
        leads(x, 2, 1, DOUBT);
        leads(x, 1, 1, 0);
    }

    /** A name that was borne for no minute is an old one, in that very minute, too. */
    private static void perhapsInThatMinute() {
        CompassRolls x = Town.streets(2);
        x.pass(7);
        x.name(0, 1);
        x.name(0, 2);
        leads(x, 1, 1, 0);
        leads(x, 2, 1, 0);
        x.name(1, 2);
        leads(x, 2, 1, DOUBT);
        x.name(1, 1);
        leads(x, 1, 1, 1);
        leads(x, 2, 1, 0);
        x.name(0, 3);
        leads(x, 2, 1, 0);
        x.name(1, 3);
        leads(x, 1, 1, 0);
        leads(x, 2, 1, 0);
        leads(x, 3, 1, DOUBT);
        x.pass(1);
        leads(x, 1, 1, 0);
        leads(x, 2, 1, 0);
    }

    private static void oneOrMore() {
        CompassRolls x = Town.places(1);
        int[] last = {10, 20, 30};
        for (int i = 0; i < 3; i++) {
            x.street();
            x.span(i, 1, last[i], 0);
            leads(x, 9, 10, i == 0 ? NONE : i == 1 ? 0 : DOUBT);
            x.name(i, 9);
        }
        leads(x, 9, 10, DOUBT);
        leads(x, 9, 11, DOUBT);
        leads(x, 9, 20, DOUBT);
        leads(x, 9, 21, 2);
        leads(x, 9, 30, 2);
        leads(x, 9, 31, NONE);
    }

    private static void allStreetsInDoubt() {
        CompassRolls x = Town.streets(12);
        for (int i = 0; i < 12; i++) {
            x.name(i, i);
        }
        for (int i = 0; i < 12; i++) {
            leads(x, i, 999, i);
        }
        for (int i = 1; i < 12; i++) {
            x.same(0, i);
            leads(x, i, 999, DOUBT);
        }
        for (int i = 0; i < 11; i++) {
            x.name(i, 20);
            leads(x, 5, 1, i < 10 ? DOUBT : 11);
        }
        leads(x, 20, 1, DOUBT);
    }

    private static void endsOfSpans() {
        CompassRolls x = Town.places(1);
        x.street();
        x.street();
        x.span(0, 10, 20, 0);
        x.span(1, 20, 30, 0);
        x.name(0, 1);
        x.name(1, 1);
        int[][] due = {{9, NONE}, {10, 0}, {19, 0}, {20, DOUBT}, {21, 1}, {30, 1}, {31, NONE}};
        for (int[] number : due) {
            leads(x, 1, number[0], number[1]);
        }
        x.name(0, 2);
        x.name(1, 2);
        int[][] old = {{9, NONE}, {10, 0}, {19, 0}, {20, 0}, {21, 1}, {30, 1}, {31, NONE}};
        for (int[] number : old) {
            leads(x, 1, number[0], number[1]);
        }
    }

    private static void oldNameOnlyIfNone() {
        CompassRolls x = Town.streets(3);
        x.name(0, 1);
        x.name(2, 1);
        x.pass(1);
        x.name(0, 2);
        leads(x, 1, 1, 2);
        x.name(1, 1);
        leads(x, 1, 1, DOUBT);
        x.name(2, 2);
        leads(x, 1, 1, 1);
        x.name(1, 2);
        leads(x, 1, 1, 0);
    }

    /** A street that bears the name now, but has not the number, leaves it to the old names. */
    private static void bearerWithoutTheNumber() {
        CompassRolls x = Town.streets(1);
        x.street();
        x.span(1, 1, 10, 0);
        x.name(0, 1);
        x.name(0, 2);
        x.name(1, 1);
        leads(x, 1, 10, 1);
        leads(x, 1, 11, 0);
        x.street();
        x.name(2, 1);
        leads(x, 1, 10, 1);
        leads(x, 1, 11, 0);
        x.name(1, 5);
        leads(x, 1, 11, 0);
        x.name(2, 5);
        x.name(0, 5);
        leads(x, 1, 11, 0);
    }

    private static void ceasedLatest() {
        CompassRolls x = Town.streets(4);
        for (int street = 0; street < 4; street++) {
            x.name(street, 1);
        }
        int[] order = {2, 3, 0, 1};
        for (int street : order) {
            x.pass(1);
            x.name(street, 2);
        }
        leads(x, 1, 1, 1);
        CompassRolls y = Town.streets(3);
        for (int street = 0; street < 3; street++) {
            y.name(street, 1);
        }
        y.pass(1);
        y.name(1, 2);
        y.pass(1);
        y.name(2, 2);
        leads(y, 1, 1, 0);
        y.name(0, 2);
        leads(y, 1, 1, 0);
        y.pass(1);
        leads(y, 1, 1, 0);
    }

    private static void ceasedInTheSameMinute() {
        int[][] orders = {{0, 1, 2}, {0, 2, 1}, {1, 0, 2}, {1, 2, 0}, {2, 0, 1}, {2, 1, 0}};
        for (int[] order : orders) {
            CompassRolls x = Town.streets(4);
            for (int street = 0; street < 4; street++) {
                x.name(street, 1);
            }
            x.pass(4);
            x.name(0, 2);
            x.pass(1);
            for (int street : order) {
                x.name(street + 1, 2);
            }
            leads(x, 1, 1, 1);
        }
    }

    private static void ceasedTwice() {
        CompassRolls x = Town.streets(2);
        x.name(1, 1);
        x.name(0, 1);
        x.pass(1);
        x.name(1, 2);
        x.pass(1);
        x.name(0, 2);
        leads(x, 1, 1, 0);
        x.name(1, 1);
        leads(x, 1, 1, 1);
        x.pass(1);
        x.name(1, 3);
        leads(x, 1, 1, 1);
        leads(x, 2, 1, 0);
    }

    /** What a street bore counts with all that are the same: the latest of them, also when it bears one still. */
    private static void ceasedOneOfTheSame() {
        CompassRolls x = Town.streets(2);
        x.name(0, 1);
        x.name(1, 5);
        x.pass(1);
        x.name(0, 2);
        x.pass(1);
        x.name(1, 9);
        leads(x, 1, 1, 0);
        leads(x, 5, 1, 1);
        x.same(1, 5);
        leads(x, 1, 1, 1);
        x.same(2, 5);
        leads(x, 1, 1, 0);
        x.pass(1);
        x.name(0, 9);
        leads(x, 5, 1, 0);
        leads(x, 9, 1, DOUBT);
    }

    private static void ceasedInMinuteZeroAndTheLast() {
        CompassRolls x = Town.streets(2);
        x.name(1, 1);
        x.name(1, 2);
        leads(x, 1, 1, 1);
        Town.until(x, 0, Town.LAST_MINUTE);
        leads(x, 1, 1, 1);
        x.name(0, 1);
        leads(x, 1, 1, 0);
        x.name(0, 2);
        leads(x, 1, 1, 0);
        leads(x, 2, 1, DOUBT);
    }

    private static void allNamingsFromTheFirstOn() {
        CompassRolls x = Town.streets(3);
        x.name(2, 20);
        x.pass(1);
        for (int i = 0; i < 97; i++) {
            x.name(0, 1 + i % 2);
        }
        x.name(2, 21);
        leads(x, 20, 1, 2);
        leads(x, 21, 1, 2);
        x.name(1, 20);
        CHECK.due("100 namings", 100, x.count(1));
        leads(x, 20, 1, 1);
        leads(x, 1, 1, 0);
        leads(x, 2, 1, 0);
        for (int i = 0; i < 3; i++) {
            CHECK.due("asked again", 1, x.leadsAnew(20, 1));
        }
        CHECK.due("it is asked, not told", 100, x.count(1));
    }
}
