/**
 * All promises: a call that throws changes nothing, if several exceptions apply, the one that the
 * throws clause names first is thrown, and what is asked changes nothing.
 *
 * Each such call is made on an object of its own. All that can be asked of that one, at once and
 * after more was told, has to be what is answered by another object that was spared the call.
 */
final class RefusedTest {
    private static final Check CHECK = new Check("RefusedTest");

    interface Use {
        long of(CompassRolls x);
    }

    interface Town {
        CompassRolls made();
    }

    interface View {
        String of(CompassRolls x);
    }

    private static final View[] VIEWS = {Seen::places, Seen::names, Seen::calls, Seen::parcels};

    private final Town town;
    private final String[] now = new String[VIEWS.length];
    private final String[] later = new String[VIEWS.length];

    private RefusedTest(Town town) {
        this.town = town;
        for (int i = 0; i < VIEWS.length; i++) {
            now[i] = VIEWS[i].of(town.made());
            CompassRolls x = town.made();
            later[i] = Seen.later(x) + VIEWS[i].of(x);
        }
    }

    public static void main(String[] args) {
        places(new RefusedTest(RefusedTest::some));
        streets(new RefusedTest(RefusedTest::some));
        names(new RefusedTest(RefusedTest::some));
        calls(new RefusedTest(RefusedTest::some));
        parcels(new RefusedTest(RefusedTest::some));
        minutes(new RefusedTest(RefusedTest::some));
        asks(new RefusedTest(RefusedTest::some));
        fullAlone();
        full(new RefusedTest(RefusedTest::fullTown));
        fullCalls(new RefusedTest(RefusedTest::fortyCalls));
        fullParcels(new RefusedTest(RefusedTest::fortyParcels));
        lastMinute(new RefusedTest(RefusedTest::nearTheEnd));
        CHECK.end();
    }

    private void outOfBounds(String call, Use use) {
        refused(call, IndexOutOfBoundsException.class, use);
    }

    private void illegalArgument(String call, Use use) {
        refused(call, IllegalArgumentException.class, use);
    }

    private void illegalState(String call, Use use) {
        refused(call, IllegalStateException.class, use);
    }

    private void refused(String call, Class<?> want, Use use) {
        CompassRolls x = town.made();
        String got = Seen.answer(() -> use.of(x));
        CHECK.due(call + " throws " + want.getSimpleName() + ", got " + got, true, want.getName().equals(got));
        changesNothing(call, use);
    }

    private void changesNothing(String call, Use use) {
        for (int i = 0; i < VIEWS.length; i++) {
            CompassRolls x = town.made();
            Seen.answer(() -> use.of(x));
            CHECK.due(call + " changes nothing, view " + i, true, now[i].equals(VIEWS[i].of(x)));
            CompassRolls y = town.made();
            Seen.answer(() -> use.of(y));
            String after = Seen.later(y) + VIEWS[i].of(y);
            CHECK.due(call + " changes nothing that follows, view " + i, true, later[i].equals(after));
        }
    }

    /**
     * Parcels 0 TAKEN, 1 RETURNED, 2 HELD, 3 POSTED; calls 0 DONE, 1 SENT, 2 WAITING, 3 IN_DOUBT, 4 LOST;
     * and a new car that goes to call 2 as soon as calls are gone through.
     */
    private static CompassRolls some() {
        CompassRolls x = town(4);
        x.locker(0, 0, 1, 1);
        x.post(0, 1, 1);
        x.pass(1440);
        x.take(0);
        x.post(0, 1, 1);
        x.pass(1440);
        x.pass(2000);
        x.post(0, 1, 1);
        x.pass(2320);
        x.post(0, 1, 2);
        x.car(3);
        x.call(3, 1);
        x.pass(10);
        x.call(3, 2);
        x.call(0, 1);
        x.name(2, 1);
        x.call(1, 1);
        x.call(20, 1);
        x.car(0);
        return x;
    }

    /** Places 0, 1, 2 in a row and 3 with no way; streets at them with the numbers 10 to 20 and 1 to 9. */
    private static CompassRolls town(int streets) {
        CompassRolls x = new CompassRolls();
        for (int i = 0; i < streets; i++) {
            x.place();
            x.street();
            x.span(i, 10, 20, i);
            x.span(i, 1, 9, i);
            x.name(i, i);
        }
        x.join(0, 1, 5);
        x.join(1, 2, 3);
        return x;
    }

    private static void places(RefusedTest some) {
        for (int place : Check.beyond(0, 3)) {
            some.outOfBounds("join(" + place + ", 0, 1)", x -> x.join(place, 0, 1));
            some.outOfBounds("join(0, " + place + ", 1)", x -> x.join(0, place, 1));
            some.outOfBounds("join(" + place + ", " + place + ", 0)", x -> x.join(place, place, 0));
            some.outOfBounds("way(" + place + ", 0)", x -> x.way(place, 0));
            some.outOfBounds("way(0, " + place + ")", x -> x.way(0, place));
        }
        for (int minutes : Check.beyond(1, 60)) {
            some.illegalArgument("join(0, 3, " + minutes + ")", x -> x.join(0, 3, minutes));
        }
        some.illegalArgument("join(3, 3, 1)", x -> x.join(3, 3, 1));
    }

    private static void streets(RefusedTest some) {
        for (int street : Check.beyond(0, 3)) {
            some.outOfBounds("span(" + street + ", 30, 40, 0)", x -> x.span(street, 30, 40, 0));
            some.outOfBounds("span(" + street + ", 1000, 0, 0)", x -> x.span(street, 1000, 0, 0));
            some.outOfBounds("span(0, 30, 40, " + street + ")", x -> x.span(0, 30, 40, street));
            some.outOfBounds("span(0, 20, 10, " + street + ")", x -> x.span(0, 20, 10, street));
            some.outOfBounds("span(0, 20, 20, " + street + ")", x -> x.span(0, 20, 20, street));
            some.outOfBounds("placeOf(" + street + ", 1)", x -> x.placeOf(street, 1));
            some.outOfBounds("placeOf(" + street + ", 0)", x -> x.placeOf(street, 0));
        }
        for (int number : Check.beyond(1, 999)) {
            some.illegalArgument("span(0, " + number + ", 40, 0)", x -> x.span(0, number, 40, 0));
            some.illegalArgument("span(0, 30, " + number + ", 0)", x -> x.span(0, 30, number, 0));
            some.illegalArgument("span(0, 15, " + number + ", 0)", x -> x.span(0, 15, number, 0));
            some.illegalArgument("placeOf(0, " + number + ")", x -> x.placeOf(0, number));
        }
        some.illegalArgument("span(0, 40, 39, 0)", x -> x.span(0, 40, 39, 0));
        some.illegalState("span(0, 20, 30, 0)", x -> x.span(0, 20, 30, 0));
        some.illegalState("span(0, 1, 1, 3)", x -> x.span(0, 1, 1, 3));
    }

    private static void names(RefusedTest some) {
        for (int street : Check.beyond(0, 3)) {
            some.outOfBounds("name(" + street + ", 5)", x -> x.name(street, 5));
            some.outOfBounds("name(" + street + ", 30)", x -> x.name(street, 30));
        }
        for (int name : Check.beyond(0, 29)) {
            some.outOfBounds("name(0, " + name + ")", x -> x.name(0, name));
            some.outOfBounds("same(" + name + ", 0)", x -> x.same(name, 0) ? 1 : 0);
            some.outOfBounds("same(0, " + name + ")", x -> x.same(0, name) ? 1 : 0);
            some.outOfBounds("leads(" + name + ", 1)", x -> x.leads(name, 1));
            some.outOfBounds("leads(" + name + ", 0)", x -> x.leads(name, 0));
            some.outOfBounds("leadsAnew(" + name + ", 1)", x -> x.leadsAnew(name, 1));
            some.outOfBounds("leadsAnew(" + name + ", 1000)", x -> x.leadsAnew(name, 1000));
        }
        for (int number : Check.beyond(1, 999)) {
            some.illegalArgument("leads(0, " + number + ")", x -> x.leads(0, number));
            some.illegalArgument("leadsAnew(0, " + number + ")", x -> x.leadsAnew(0, number));
        }
        some.illegalState("name(0, 0)", x -> x.name(0, 0));
        some.illegalState("name(2, 1)", x -> x.name(2, 1));
    }

    private static void calls(RefusedTest some) {
        for (int place : Check.beyond(0, 3)) {
            some.outOfBounds("car(" + place + ")", x -> x.car(place));
            some.outOfBounds("clear(3, " + place + ")", x -> x.clear(3, place));
            some.outOfBounds("clear(2, " + place + ")", x -> x.clear(2, place));
        }
        for (int name : Check.beyond(0, 29)) {
            some.outOfBounds("call(" + name + ", 1)", x -> x.call(name, 1));
            some.outOfBounds("call(" + name + ", 0)", x -> x.call(name, 0));
        }
        for (int number : Check.beyond(1, 999)) {
            some.illegalArgument("call(0, " + number + ")", x -> x.call(0, number));
        }
        for (int call : Check.beyond(0, 4)) {
            some.outOfBounds("clear(" + call + ", 1)", x -> x.clear(call, 1));
            some.outOfBounds("clear(" + call + ", 4)", x -> x.clear(call, 4));
            some.outOfBounds("ofCall(" + call + ", 0)", x -> x.ofCall(call, 0));
        }
        for (int call : new int[] {0, 1, 2, 4}) {
            some.illegalState("clear(" + call + ", 1)", x -> x.clear(call, 1));
        }
        for (int street : new int[] {0, 3}) {
            some.illegalState("clear(3, " + street + ")", x -> x.clear(3, street));
        }
        for (int what : Check.beyond(0, 5)) {
            some.outOfBounds("ofCall(0, " + what + ")", x -> x.ofCall(0, what));
        }
        for (int what : Check.beyond(0, 2)) {
            some.outOfBounds("ofCar(0, " + what + ")", x -> x.ofCar(0, what));
        }
        for (int car : Check.beyond(0, 1)) {
            some.outOfBounds("ofCar(" + car + ", 0)", x -> x.ofCar(car, 0));
        }
    }

    private static void parcels(RefusedTest some) {
        for (int place : Check.beyond(0, 3)) {
            some.outOfBounds("locker(" + place + ", 1, 1, 1)", x -> x.locker(place, 1, 1, 1));
            some.outOfBounds("locker(" + place + ", 1, 10, 1)", x -> x.locker(place, 1, 10, 1));
            some.outOfBounds("take(" + place + ")", x -> x.take(place));
            some.outOfBounds("ofParcel(" + place + ", 0)", x -> x.ofParcel(place, 0));
            some.outOfBounds("ofParcel(0, " + place + ")", x -> x.ofParcel(0, place));
        }
        for (int compartments : Check.beyond(0, 9)) {
            some.illegalArgument("locker(0, " + compartments + ", 1, 1)", x -> x.locker(0, compartments, 1, 1));
            some.illegalArgument("locker(0, 1, " + compartments + ", 1)", x -> x.locker(0, 1, compartments, 1));
            some.illegalArgument("locker(0, 1, 1, " + compartments + ")", x -> x.locker(0, 1, 1, compartments));
        }
        for (int name : Check.beyond(0, 29)) {
            some.outOfBounds("post(" + name + ", 1, 0)", x -> x.post(name, 1, 0));
            some.outOfBounds("post(" + name + ", 0, 3)", x -> x.post(name, 0, 3));
        }
        for (int number : Check.beyond(1, 999)) {
            some.illegalArgument("post(0, " + number + ", 0)", x -> x.post(0, number, 0));
        }
        for (int size : Check.beyond(0, 2)) {
            some.illegalArgument("post(0, 1, " + size + ")", x -> x.post(0, 1, size));
            some.outOfBounds("free(0, " + size + ")", x -> x.free(0, size));
        }
        for (int locker : Check.beyond(0, 0)) {
            some.outOfBounds("free(" + locker + ", 0)", x -> x.free(locker, 0));
        }
        for (int parcel : new int[] {0, 1, 3}) {
            some.illegalState("take(" + parcel + ")", x -> x.take(parcel));
        }
    }

    private static void minutes(RefusedTest some) {
        for (int minutes : Check.beyond(1, 3000)) {
            some.illegalArgument("pass(" + minutes + ")", x -> x.pass(minutes));
        }
        for (int what : Check.beyond(0, 8)) {
            some.illegalArgument("count(" + what + ")", x -> x.count(what));
        }
    }

    private static void asks(RefusedTest some) {
        for (View view : VIEWS) {
            some.changesNothing("asking", x -> view.of(x).length());
        }
        some.changesNothing("asking for what is the same already", x -> x.same(7, 7) ? 1 : 0);
    }

    /** As many as there may be of all but calls and parcels; a second span at street 1 alone. */
    private static CompassRolls fullTown() {
        CompassRolls x = new CompassRolls();
        for (int i = 0; i < 12; i++) {
            x.place();
            x.street();
        }
        for (int i = 0; i < 24; i++) {
            x.join(i % 10, (i + 1) % 10, 20 + i);
        }
        for (int i = 0; i < 4; i++) {
            x.span(0, 10 * i + 1, 10 * i + 5, i);
        }
        x.span(1, 1, 999, 1);
        for (int i = 0; i < 100; i++) {
            x.name(i % 5, i % 12);
        }
        for (int i = 0; i < 6; i++) {
            x.car(i);
            x.locker(i, 1, 1, 1);
        }
        return x;
    }

    private static void full(RefusedTest full) {
        full.illegalState("the 13th place", x -> x.place());
        full.illegalState("the 13th street", x -> x.street());
        full.outOfBounds("no place for the 25th way", x -> x.join(0, 12, 1));
        full.outOfBounds("no place for the 25th way", x -> x.join(12, 0, 0));
        full.illegalArgument("no minutes for the 25th way", x -> x.join(0, 11, 0));
        full.illegalArgument("too many minutes for the 25th way", x -> x.join(0, 11, 61));
        full.illegalArgument("the same place for the 25th way", x -> x.join(11, 11, 1));
        full.illegalState("the 25th way", x -> x.join(0, 11, 1));
        full.outOfBounds("no street for a fifth span", x -> x.span(12, 600, 601, 0));
        full.outOfBounds("no place for the fifth span", x -> x.span(0, 600, 601, 12));
        full.illegalArgument("no from for the fifth span", x -> x.span(0, 0, 601, 0));
        full.illegalArgument("no to for the fifth span", x -> x.span(0, 600, 599, 0));
        full.illegalState("the fifth span", x -> x.span(0, 600, 601, 0));
        full.illegalState("the fifth span, with a number in common", x -> x.span(0, 5, 6, 0));
        full.outOfBounds("no street for the 101st naming", x -> x.name(12, 29));
        full.outOfBounds("no name for the 101st naming", x -> x.name(0, 30));
        full.outOfBounds("no name for the 101st naming, of a street without one", x -> x.name(11, CompassRolls.NONE));
        full.illegalState("the 101st naming", x -> x.name(0, 29));
        full.illegalState("the 101st naming, of a street without a name", x -> x.name(11, 29));
        full.outOfBounds("no place for the seventh car", x -> x.car(12));
        full.illegalState("the seventh car", x -> x.car(0));
        full.outOfBounds("no place for the seventh locker", x -> x.locker(12, 1, 1, 1));
        full.outOfBounds("no place for the seventh locker, out of range", x -> x.locker(-1, 1, 1, 10));
        full.illegalArgument("small of the seventh locker", x -> x.locker(0, -1, 1, 1));
        full.illegalArgument("middle of the seventh locker", x -> x.locker(0, 1, 10, 1));
        full.illegalArgument("big of the seventh locker", x -> x.locker(0, 1, 1, 10));
        full.illegalState("the seventh locker", x -> x.locker(0, 1, 1, 1));
    }

    /** The town with a limit reached by one kind of call alone. */
    private static RefusedTest alone(int times, Use use) {
        return new RefusedTest(() -> {
            CompassRolls x = town(4);
            for (int i = 0; i < times; i++) {
                use.of(x);
            }
            return x;
        });
    }

    private static void fullAlone() {
        alone(8, x -> x.place()).illegalState("the 13th place, alone", x -> x.place());
        alone(22, x -> x.join(0, 1, 9)).illegalState("the 25th way, alone", x -> x.join(0, 3, 1));
        alone(8, x -> x.street()).illegalState("the 13th street, alone", x -> x.street());
        // The street has two spans already: number 31 is the third one, 32 the fourth.
        alone(2, x -> x.placeOf(0, 31) < 0 ? x.span(0, 31, 31, 0) : x.span(0, 32, 32, 0))
            .illegalState("the fifth span, alone", x -> x.span(0, 700, 701, 0));
        alone(96, x -> x.name(0, 20 + x.count(1) % 2)).illegalState("the 101st naming, alone", x -> x.name(1, 9));
        alone(6, x -> x.car(2)).illegalState("the seventh car, alone", x -> x.car(1));
        alone(6, x -> x.locker(2, 1, 1, 1)).illegalState("the seventh locker, alone", x -> x.locker(1, 1, 1, 1));
    }

    /** Half of the calls wait, a quarter is in doubt, a quarter is lost; a new car is free. */
    private static CompassRolls fortyCalls() {
        CompassRolls x = town(4);
        x.name(2, 1);
        for (int i = 0; i < 10; i++) {
            x.call(0, 1);
            x.call(3, 2);
            x.call(20, 1);
            x.call(1, 1);
        }
        x.car(0);
        return x;
    }

    private static void fullCalls(RefusedTest full) {
        full.outOfBounds("no name for the 41st call", x -> x.call(30, 1));
        full.outOfBounds("no name and no number for the 41st call", x -> x.call(-1, 1000));
        full.illegalArgument("no number for the 41st call", x -> x.call(0, 0));
        full.illegalArgument("too great a number for the 41st call", x -> x.call(0, 1000));
        full.illegalState("the 41st call", x -> x.call(0, 1));
        full.illegalState("the 41st call, lost", x -> x.call(20, 1));
        full.illegalState("the 41st call, in doubt", x -> x.call(1, 1));
        full.outOfBounds("clear of the 41st call", x -> x.clear(40, 1));
        full.outOfBounds("ofCall of the 41st call", x -> x.ofCall(40, 0));
    }

    private static CompassRolls fortyParcels() {
        CompassRolls x = town(4);
        x.locker(2, 3, 0, 2);
        for (int i = 0; i < 40; i++) {
            x.post(i % 5, 1 + i % 20, i % 3);
            if (i % 20 == 10) {
                x.pass(1440);
            }
        }
        return x;
    }

    private static void fullParcels(RefusedTest full) {
        full.outOfBounds("no name for the 41st parcel", x -> x.post(30, 1, 0));
        full.outOfBounds("no name, no number, no size for the 41st parcel", x -> x.post(-1, 0, 3));
        full.illegalArgument("no number for the 41st parcel", x -> x.post(0, 0, 0));
        full.illegalArgument("no size for the 41st parcel", x -> x.post(0, 1, 3));
        full.illegalState("the 41st parcel", x -> x.post(0, 1, 0));
        full.outOfBounds("take of the 41st parcel", x -> x.take(40));
        full.outOfBounds("ofParcel of the 41st parcel", x -> x.ofParcel(40, 0));
    }

    /** Day 68 has begun; 1442 minutes are left, with day 69 and a car that is on its way as it ends. */
    private static CompassRolls nearTheEnd() {
        CompassRolls x = town(4);
        x.locker(0, 1, 1, 1);
        for (int i = 0; i < 32; i++) {
            x.pass(3000);
        }
        x.pass(2558);
        x.post(0, 1, 0);
        x.car(2);
        x.call(0, 1);
        return x;
    }

    private static void lastMinute(RefusedTest near) {
        near.illegalState("pass(1443), one above", x -> x.pass(1443));
        near.illegalState("pass(3000)", x -> x.pass(3000));
        near.illegalArgument("pass(3001)", x -> x.pass(3001));
        near.illegalArgument("pass(the greatest)", x -> x.pass(Integer.MAX_VALUE));
        near.illegalArgument("pass(the least)", x -> x.pass(Integer.MIN_VALUE));
        CompassRolls x = nearTheEnd();
        CHECK.due("pass(1442)", 100000, x.pass(1442));
    }
}
