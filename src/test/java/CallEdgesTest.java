/** The edges of promises 12 car, 13 call, 14 clear, 15 ofCall and 16 ofCar, a sentence each. */
final class CallEdgesTest {
    private static final Check CHECK = new Check("CallEdgesTest");
    private static final int NONE = CompassRolls.NONE;
    private static final int WAITING = CompassRolls.WAITING;
    private static final int SENT = CompassRolls.SENT;
    private static final int DONE = CompassRolls.DONE;
    private static final int IN_DOUBT = CompassRolls.IN_DOUBT;
    private static final int LOST = CompassRolls.LOST;

    public static void main(String[] args) {
        sixCars();
        carPlaces();
        newCar();
        fortyCalls();
        callNames();
        callNumbers();
        callThrowsInOrder();
        callOfEachKind();
        noCar();
        carWithoutAWay();
        shortestWayOfCars();
        lowestOfSeveral();
        callsGoByNumbers();
        wayOfNoMinutes();
        longestWay();
        oneMoreForAnOldName();
        tenMinutesThere();
        freeAtThatPlace();
        toldCallsGoThroughAll();
        eachMinuteGoesThroughAll();
        clearCalls();
        clearStreets();
        clearOnlyDoubts();
        clearOnlyBearers();
        clearedCar();
        ofCallRange();
        ofCarRange();
        CHECK.end();
    }

    private static void call(CompassRolls x, int call, int... want) {
        for (int what = 0; what < want.length; what++) {
            CHECK.due("ofCall(" + call + ", " + what + ")", want[what], x.ofCall(call, what));
        }
    }

    private static void car(CompassRolls x, int car, int free, int place, int minutes) {
        CHECK.due("ofCar(" + car + ", 0)", free, x.ofCar(car, 0));
        CHECK.due("ofCar(" + car + ", 1)", place, x.ofCar(car, 1));
        CHECK.due("ofCar(" + car + ", 2)", minutes, x.ofCar(car, 2));
    }

    private static void sixCars() {
        CompassRolls x = Town.places(1);
        for (int i = 0; i < 6; i++) {
            CHECK.due("car", i, x.car(0));
        }
        CHECK.illegalState("the seventh car", () -> x.car(0));
        CHECK.outOfBounds("the seventh car nowhere", () -> x.car(1));
        CHECK.outOfBounds("the seventh car at -1", () -> x.car(-1));
        CHECK.due("free cars", 6, x.count(2));
        CHECK.outOfBounds("it is not there", () -> x.ofCar(6, 0));
    }

    private static void carPlaces() {
        CompassRolls x = Town.places(12);
        for (int place : Check.beyond(0, 11)) {
            CHECK.outOfBounds("car at " + place, () -> x.car(place));
        }
        CHECK.due("at the lowest place", 0, x.car(0));
        CHECK.due("at the highest place", 1, x.car(11));
        car(x, 0, 1, 0, 0);
        car(x, 1, 1, 11, 0);
    }

    private static void newCar() {
        CompassRolls x = Town.built();
        x.call(0, 1);
        x.pass(5);
        x.car(0);
        car(x, 0, 1, 0, 0);
        call(x, 0, WAITING, 0, 0, NONE, NONE, 0);
    }

    private static void fortyCalls() {
        CompassRolls x = Town.streets(1);
        x.name(0, 0);
        for (int i = 0; i < 40; i++) {
            CHECK.due("call", i, x.call(0, 1 + i));
            CHECK.outOfBounds("the next one is not there", () -> x.ofCall(x.count(3), 0));
        }
        CHECK.illegalState("the 41st call", () -> x.call(0, 1));
        CHECK.illegalState("the 41st call, lost", () -> x.call(1, 1));
        CHECK.due("40 wait", 40, x.count(3));
        CHECK.outOfBounds("it is not there", () -> x.ofCall(40, 0));
        x.car(0);
        x.pass(399);
        CHECK.due("the last one is sent for", SENT, x.ofCall(39, 0));
        CHECK.due("40 calls stay told", 39, x.count(5));
        x.pass(3);
        CHECK.due("all are done", 40, x.count(5));
        CHECK.illegalState("the 41st call, as all are done", () -> x.call(0, 1));
    }

    private static void callNames() {
        CompassRolls x = Town.streets(2);
        x.name(0, 0);
        x.name(1, 29);
        CHECK.due("the lowest name", 0, x.call(0, 1));
        CHECK.due("the highest name", 1, x.call(29, 1));
        for (int name : Check.beyond(0, 29)) {
            CHECK.outOfBounds("call of " + name, () -> x.call(name, 1));
            CHECK.outOfBounds("call of " + name + ", no number", () -> x.call(name, 0));
        }
        call(x, 0, WAITING, 0);
        call(x, 1, WAITING, 1);
        CHECK.outOfBounds("no third call", () -> x.ofCall(2, 0));
    }

    private static void callNumbers() {
        CompassRolls x = Town.streets(1);
        x.name(0, 0);
        CHECK.due("the lowest number", 0, x.call(0, 1));
        CHECK.due("the highest number", 1, x.call(0, 999));
        for (int number : Check.beyond(1, 999)) {
            CHECK.illegalArgument("call of number " + number, () -> x.call(0, number));
            CHECK.illegalArgument("lost anyway", () -> x.call(1, number));
        }
        call(x, 1, WAITING, 0, 0);
        CHECK.due("refused ones are not counted", 2, x.call(0, 1));
    }

    private static void callThrowsInOrder() {
        CompassRolls x = Town.streets(1);
        for (int i = 0; i < 40; i++) {
            x.call(0, 1);
        }
        CHECK.outOfBounds("no name, 40 calls", () -> x.call(30, 1));
        CHECK.outOfBounds("no name, no number, 40 calls", () -> x.call(-1, 1000));
        CHECK.illegalArgument("no number, 40 calls", () -> x.call(0, 1000));
        CHECK.illegalArgument("no number, 40 calls", () -> x.call(0, 0));
        CHECK.illegalState("40 calls", () -> x.call(0, 1));
    }

    private static void callOfEachKind() {
        CompassRolls x = Town.streets(3);
        x.name(0, 1);
        x.name(1, 2);
        x.name(2, 2);
        x.call(0, 1);
        x.call(2, 1);
        x.call(1, 1);
        x.name(0, 3);
        x.call(1, 1);
        call(x, 0, LOST, NONE, NONE, NONE, NONE, 0);
        call(x, 1, IN_DOUBT, NONE, NONE, NONE, NONE, 0);
        call(x, 2, WAITING, 0, 0, NONE, NONE, 0);
        call(x, 3, WAITING, 0, 0, NONE, NONE, 1);
    }

    private static void noCar() {
        CompassRolls x = Town.streets(1);
        x.name(0, 1);
        x.call(1, 1);
        Town.until(x, 0, Town.LAST_MINUTE);
        call(x, 0, WAITING, 0, 0, NONE, NONE, 0);
        x.car(0);
        x.call(2, 1);
        call(x, 0, SENT, 0, 0, 0, Town.LAST_MINUTE, 0);
    }

    private static void carWithoutAWay() {
        CompassRolls x = Town.built();
        x.car(3);
        x.call(0, 1);
        call(x, 0, WAITING, 0, 0, NONE, NONE, 0);
        car(x, 0, 1, 3, 0);
        x.car(2);
        x.call(0, 1);
        call(x, 0, SENT, 0, 0, 1, 8, 0);
        x.join(3, 0, 60);
        x.pass(1);
        call(x, 1, SENT, 0, 0, 0, 61, 0);
    }

    private static void shortestWayOfCars() {
        CompassRolls x = Town.places(4);
        x.street();
        x.span(0, 1, 1, 0);
        x.name(0, 0);
        x.join(0, 1, 9);
        x.join(0, 2, 8);
        x.join(0, 3, 10);
        x.join(2, 1, 1);
        for (int place : new int[] {3, 1, 2, 1, 3}) {
            x.car(place);
        }
        int[] cars = {2, 1, 3, 0, 4, NONE};
        int[] there = {8, 9, 9, 10, 10, NONE};
        for (int i = 0; i < 6; i++) {
            x.call(0, 1);
            call(x, i, cars[i] == NONE ? WAITING : SENT, 0, 0, cars[i], there[i], 0);
        }
    }

    private static void lowestOfSeveral() {
        CompassRolls x = Town.streets(1);
        x.name(0, 0);
        for (int i = 0; i < 6; i++) {
            x.car(0);
        }
        for (int i = 0; i < 7; i++) {
            x.call(0, 1);
            CHECK.due("the lowest free car", i < 6 ? i : NONE, x.ofCall(i, 3));
        }
        x.pass(10);
        CHECK.due("again the lowest one", 0, x.ofCall(6, 3));
    }

    /** A lower call gets the nearer car, though another call were nearer to it. */
    private static void callsGoByNumbers() {
        CompassRolls x = Town.built();
        x.call(2, 1);
        x.call(0, 1);
        x.call(1, 1);
        x.car(0);
        x.car(1);
        x.pass(1);
        call(x, 0, SENT, 2, 2, 1, 4, 0);
        call(x, 1, SENT, 0, 0, 0, 1, 0);
        call(x, 2, WAITING);
    }

    private static void wayOfNoMinutes() {
        CompassRolls x = Town.built();
        x.car(2);
        x.call(2, 1);
        call(x, 0, SENT, 2, 2, 0, 0, 0);
        car(x, 0, 0, 2, 10);
        x.pass(9);
        car(x, 0, 0, 2, 1);
        x.pass(1);
        car(x, 0, 1, 2, 0);
        call(x, 0, DONE, 2, 2, 0, 0, 0);
    }

    private static void longestWay() {
        CompassRolls x = Town.places(12);
        for (int i = 0; i < 11; i++) {
            x.join(i, i + 1, 60);
        }
        x.street();
        x.span(0, 999, 999, 11);
        x.name(0, 29);
        x.name(0, 28);
        x.car(0);
        x.call(29, 999);
        call(x, 0, SENT, 0, 11, 0, 661, 1);
        car(x, 0, 0, 11, 671);
        x.pass(670);
        car(x, 0, 0, 11, 1);
        call(x, 0, SENT);
        x.pass(1);
        car(x, 0, 1, 11, 0);
        call(x, 0, DONE, 0, 11, 0, 661, 1);
    }

    private static void oneMoreForAnOldName() {
        CompassRolls x = Town.built();
        x.name(0, 20);
        for (int i = 0; i < 3; i++) {
            x.car(0);
        }
        x.call(0, 1);
        x.call(20, 1);
        x.same(0, 20);
        x.call(0, 1);
        call(x, 0, SENT, 0, 0, 0, 1, 1);
        car(x, 0, 0, 0, 11);
        call(x, 1, SENT, 0, 0, 1, 0, 0);
        car(x, 1, 0, 0, 10);
        call(x, 2, SENT, 0, 0, 2, 0, 0);
        car(x, 2, 0, 0, 10);
        x.pass(10);
        call(x, 0, SENT);
        call(x, 1, DONE);
        call(x, 2, DONE);
        x.pass(1);
        call(x, 0, DONE);
    }

    private static void tenMinutesThere() {
        CompassRolls x = Town.built();
        x.car(0);
        x.call(1, 1);
        call(x, 0, SENT, 1, 1, 0, 5, 0);
        int[] minutes = {15, 14, 13, 12, 11, 10, 9, 8, 7, 6, 5, 4, 3, 2, 1};
        for (int left : minutes) {
            car(x, 0, 0, 1, left);
            call(x, 0, SENT, 1, 1, 0, 5, 0);
            x.pass(1);
        }
        car(x, 0, 1, 1, 0);
        call(x, 0, DONE, 1, 1, 0, 5, 0);
    }

    private static void freeAtThatPlace() {
        CompassRolls x = Town.built();
        x.car(0);
        x.call(2, 1);
        x.pass(18);
        car(x, 0, 1, 2, 0);
        x.call(1, 1);
        call(x, 1, SENT, 1, 1, 0, 21, 0);
        x.pass(13);
        car(x, 0, 1, 1, 0);
    }

    private static void toldCallsGoThroughAll() {
        CompassRolls x = Town.built();
        x.name(3, 2);
        x.call(0, 1);
        x.call(1, 1);
        x.call(0, 1);
        x.car(0);
        x.call(9, 1);
        call(x, 0, SENT, 0, 0, 0, 0, 0);
        call(x, 1, WAITING);
        x.car(1);
        x.call(2, 1);
        call(x, 1, SENT, 1, 1, 1, 0, 0);
        call(x, 2, WAITING);
        call(x, 4, IN_DOUBT);
        x.car(0);
        CHECK.due("cleared, the other call is ahead of it", NONE, x.clear(4, 2));
        call(x, 2, SENT, 0, 0, 2, 0, 0);
        call(x, 4, WAITING, 2, 2, NONE, NONE, 0);
    }

    private static void eachMinuteGoesThroughAll() {
        CompassRolls x = Town.built();
        x.call(0, 1);
        x.pass(1);
        x.car(0);
        call(x, 0, WAITING);
        x.pass(3000);
        call(x, 0, DONE, 0, 0, 0, 2, 0);
        x.call(3, 1);
        x.pass(1);
        x.join(3, 2, 1);
        call(x, 1, WAITING);
        x.pass(1);
        call(x, 1, SENT, 3, 3, 0, 3003 + 9, 0);
        x.call(3, 2);
        x.call(3, 3);
        x.pass(19);
        call(x, 1, DONE);
        call(x, 2, SENT, 3, 3, 0, 3022, 0);
        call(x, 3, WAITING);
        x.pass(20);
        call(x, 2, DONE);
        call(x, 3, DONE, 3, 3, 0, 3032, 0);
    }

    private static CompassRolls doubtful() {
        CompassRolls x = Town.built();
        x.name(2, 1);
        x.call(1, 1);
        return x;
    }

    private static void clearCalls() {
        CompassRolls x = doubtful();
        for (int call : Check.beyond(0, 0)) {
            CHECK.outOfBounds("clear of " + call, () -> x.clear(call, 1));
            CHECK.outOfBounds("clear of " + call + ", no street", () -> x.clear(call, 4));
        }
        for (int i = 1; i < 40; i++) {
            x.call(1, 1);
        }
        CHECK.outOfBounds("clear of 40", () -> x.clear(40, 1));
        CHECK.due("clear of 39", NONE, x.clear(39, 1));
        CHECK.due("clear of 0", NONE, x.clear(0, 2));
        call(x, 39, WAITING, 1, 1);
        call(x, 0, WAITING, 2, 2);
        CHECK.due("the others stay", 38, x.count(4));
    }

    private static void clearStreets() {
        CompassRolls x = Town.streets(12);
        x.name(0, 1);
        x.name(11, 1);
        x.call(1, 1);
        x.call(1, 1);
        x.call(2, 1);
        for (int street : Check.beyond(0, 11)) {
            CHECK.outOfBounds("clear to " + street, () -> x.clear(0, street));
            CHECK.outOfBounds("not in doubt, to " + street, () -> x.clear(2, street));
        }
        x.clear(0, 0);
        x.clear(1, 11);
        call(x, 0, WAITING, 0);
        call(x, 1, WAITING, 11);
    }

    private static void clearOnlyDoubts() {
        CompassRolls x = Town.streets(3);
        x.name(0, 1);
        x.name(1, 2);
        x.name(2, 2);
        x.car(0);
        x.call(1, 1);
        CHECK.illegalState("SENT", () -> x.clear(0, 0));
        x.call(1, 1);
        CHECK.illegalState("WAITING", () -> x.clear(1, 0));
        x.call(0, 1);
        CHECK.illegalState("LOST", () -> x.clear(2, 0));
        x.pass(10);
        CHECK.illegalState("DONE", () -> x.clear(0, 0));
        x.call(2, 1);
        CHECK.due("IN_DOUBT", NONE, x.clear(3, 1));
        CHECK.illegalState("cleared already", () -> x.clear(3, 1));
        CHECK.illegalState("cleared already, to the other one", () -> x.clear(3, 2));
        x.name(2, 0);
        CHECK.illegalState("LOST, though it would lead somewhere now", () -> x.clear(2, 2));
        call(x, 0, DONE, 0, 0, 0, 0, 0);
        call(x, 1, SENT, 0, 0, 0, 10, 0);
        call(x, 2, LOST, NONE, NONE, NONE, NONE, 0);
        call(x, 3, WAITING, 1, 0, NONE, NONE, 0);
    }

    private static void clearOnlyBearers() {
        CompassRolls x = Town.streets(5);
        x.street();
        x.span(5, 1, 7, 0);
        for (int street : new int[] {1, 2, 3, 5}) {
            x.name(street, 1);
        }
        x.call(1, 8);
        x.name(3, 2);
        CHECK.illegalState("a street without a name", () -> x.clear(0, 0));
        CHECK.illegalState("one that bears it no more", () -> x.clear(0, 3));
        CHECK.illegalState("one that has not the number", () -> x.clear(0, 5));
        x.name(4, 3);
        CHECK.illegalState("one that bears another one", () -> x.clear(0, 4));
        x.same(3, 1);
        call(x, 0, IN_DOUBT, NONE, NONE, NONE, NONE, 0);
        CHECK.due("now that is the same", NONE, x.clear(0, 4));
        call(x, 0, WAITING, 4, 0, NONE, NONE, 0);
        x.call(1, 8);
        x.name(2, 7);
        x.name(4, 7);
        CHECK.due("the only one that is left", NONE, x.clear(1, 1));
        call(x, 1, WAITING, 1, 0, NONE, NONE, 0);
        CompassRolls y = Town.streets(2);
        y.name(0, 1);
        y.name(1, 1);
        y.call(1, 1);
        y.name(0, 2);
        y.name(1, 2);
        CHECK.illegalState("none bears it any more", () -> y.clear(0, 0));
        CHECK.illegalState("none bears it any more", () -> y.clear(0, 1));
        call(y, 0, IN_DOUBT);
        y.name(1, 1);
        CHECK.due("one bears it again", NONE, y.clear(0, 1));
        call(y, 0, WAITING, 1, 0, NONE, NONE, 0);
    }

    private static void clearedCar() {
        CompassRolls none = doubtful();
        CHECK.due("no car", NONE, none.clear(0, 1));
        CompassRolls x = doubtful();
        x.car(3);
        CHECK.due("a car without a way", NONE, x.clear(0, 1));
        CompassRolls y = doubtful();
        y.car(3);
        y.car(0);
        y.car(2);
        CHECK.due("the nearest one", 2, y.clear(0, 1));
        call(y, 0, SENT, 1, 1, 2, 3, 0);
        CompassRolls z = doubtful();
        z.car(0);
        CHECK.due("the lowest car", 0, z.clear(0, 2));
        call(z, 0, SENT, 2, 2, 0, 8, 0);
    }

    private static void ofCallRange() {
        CompassRolls x = Town.built();
        CHECK.outOfBounds("no call yet", () -> x.ofCall(0, 0));
        for (int i = 0; i < 40; i++) {
            x.call(0, 1);
        }
        call(x, 39, WAITING, 0, 0, NONE, NONE, 0);
        for (int call : Check.beyond(0, 39)) {
            CHECK.outOfBounds("ofCall(" + call + ", 0)", () -> x.ofCall(call, 0));
        }
        for (int what : Check.beyond(0, 5)) {
            CHECK.outOfBounds("ofCall(0, " + what + ")", () -> x.ofCall(0, what));
        }
    }

    private static void ofCarRange() {
        CompassRolls x = Town.built();
        CHECK.outOfBounds("no car yet", () -> x.ofCar(0, 0));
        for (int i = 0; i < 6; i++) {
            x.car(i % 4);
        }
        car(x, 5, 1, 1, 0);
        for (int car : Check.beyond(0, 5)) {
            CHECK.outOfBounds("ofCar(" + car + ", 0)", () -> x.ofCar(car, 0));
        }
        for (int what : Check.beyond(0, 2)) {
            CHECK.outOfBounds("ofCar(0, " + what + ")", () -> x.ofCar(0, what));
        }
    }
}
