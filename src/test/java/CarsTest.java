/** Promises 12 to 16: cars, calls, doubts that are cleared, and what they tell. */
final class CarsTest {
    private static final Check CHECK = new Check("CarsTest");
    private static final int NONE = CompassRolls.NONE;

    public static void main(String[] args) {
        cars();
        oneCall();
        oldName();
        nearestCar();
        waiting();
        doubts();
        toldNames();
        doubtsGone();
        limits();
        wrongInputs();
        CHECK.end();
    }

    private static void call(CompassRolls x, int call, int... want) {
        for (int what = 0; what < want.length; what++) {
            CHECK.due("ofCall(" + call + ", " + what + ")", want[what], x.ofCall(call, what));
        }
    }

    private static void car(CompassRolls x, int car, int free, int place, int minutes) {
        CHECK.due("ofCar(" + car + ", 0)", free, x.ofCar(car, 0));
        CHECK.due("ofCar(" + car + ", 1)", place, x.ofCar(car, 1));
        CHECK.due("ofCar(" + car + ", 2)", minutes, x.ofCar(car, 2));
    }

    private static void cars() {
        CompassRolls x = Town.built();
        for (int i = 0; i < 6; i++) {
            CHECK.due("free cars", i, x.count(2));
            CHECK.due("car", i, x.car(i % 4));
            car(x, i, 1, i % 4, 0);
        }
        CHECK.illegalState("the seventh car", () -> x.car(0));
        CHECK.outOfBounds("no such place ahead of 6 cars", () -> x.car(4));
        CHECK.due("free cars", 6, x.count(2));
    }

    private static void oneCall() {
        CompassRolls x = Town.built();
        x.car(0);
        CHECK.due("call", 0, x.call(2, 99));
        call(x, 0, CompassRolls.SENT, 2, 2, 0, 8, 0);
        car(x, 0, 0, 2, 18);
        CHECK.due("no free cars", 0, x.count(2));
        x.pass(8);
        car(x, 0, 0, 2, 10);
        x.pass(9);
        car(x, 0, 0, 2, 1);
        call(x, 0, CompassRolls.SENT, 2, 2, 0, 8, 0);
        CHECK.due("none is done", 0, x.count(5));
        x.pass(1);
        car(x, 0, 1, 2, 0);
        call(x, 0, CompassRolls.DONE, 2, 2, 0, 8, 0);
        CHECK.due("one is done", 1, x.count(5));
        CHECK.due("another call", 1, x.call(2, 1));
        call(x, 1, CompassRolls.SENT, 2, 2, 0, 18, 0);
        car(x, 0, 0, 2, 10);
        x.pass(10);
        call(x, 1, CompassRolls.DONE);
        CHECK.due("two are done", 2, x.count(5));
    }

    private static void oldName() {
        CompassRolls x = Town.built();
        x.car(0);
        x.pass(3);
        x.name(1, 9);
        CHECK.due("call by an old name", 0, x.call(1, 5));
        call(x, 0, CompassRolls.SENT, 1, 1, 0, 3 + 5 + 1, 1);
        car(x, 0, 0, 1, 16);
        x.pass(16);
        call(x, 0, CompassRolls.DONE, 1, 1, 0, 9, 1);
        x.call(9, 5);
        call(x, 1, CompassRolls.SENT, 1, 1, 0, 19, 0);
        x.pass(10);
        x.call(1, 5);
        call(x, 2, CompassRolls.SENT, 1, 1, 0, 30, 1);
    }

    private static void nearestCar() {
        CompassRolls x = Town.built();
        x.car(3);
        x.car(0);
        x.car(2);
        x.car(2);
        x.call(1, 1);
        call(x, 0, CompassRolls.SENT, 1, 1, 2, 3, 0);
        x.call(1, 1);
        call(x, 1, CompassRolls.SENT, 1, 1, 3, 3, 0);
        x.call(1, 1);
        call(x, 2, CompassRolls.SENT, 1, 1, 1, 5, 0);
        x.call(1, 1);
        call(x, 3, CompassRolls.WAITING, 1, 1, NONE, NONE, 0);
        CHECK.due("one waits", 1, x.count(3));
        x.call(3, 1);
        call(x, 4, CompassRolls.SENT, 3, 3, 0, 0, 0);
        car(x, 0, 0, 3, 10);
        x.pass(13);
        call(x, 3, CompassRolls.SENT, 1, 1, 2, 13, 0);
        car(x, 3, 1, 1, 0);
    }

    private static void waiting() {
        CompassRolls x = Town.built();
        x.call(0, 1);
        x.call(1, 1);
        x.call(3, 1);
        x.call(0, 2);
        CHECK.due("a car is told", 0, x.car(1));
        CHECK.due("it is free at first", 1, x.count(2));
        CHECK.due("all wait", 4, x.count(3));
        x.pass(1);
        call(x, 0, CompassRolls.SENT, 0, 0, 0, 6, 0);
        CHECK.due("a lost call sends, too", 4, x.call(20, 1));
        call(x, 4, CompassRolls.LOST, NONE, NONE, NONE, NONE, 0);
        x.car(2);
        call(x, 1, CompassRolls.WAITING);
        x.call(21, 1);
        call(x, 1, CompassRolls.SENT, 1, 1, 1, 4, 0);
        x.join(3, 0, 1);
        call(x, 2, CompassRolls.WAITING, 3, 3, NONE, NONE, 0);
        x.pass(12);
        call(x, 1, CompassRolls.SENT);
        x.pass(1);
        call(x, 1, CompassRolls.DONE);
        call(x, 2, CompassRolls.SENT, 3, 3, 1, 14 + 6, 0);
        x.pass(2);
        call(x, 3, CompassRolls.SENT, 0, 0, 0, 16, 0);
    }

    private static void doubts() {
        CompassRolls x = Town.built();
        x.name(2, 1);
        x.name(3, 11);
        x.call(1, 7);
        call(x, 0, CompassRolls.IN_DOUBT, NONE, NONE, NONE, NONE, 0);
        CHECK.due("one in doubt", 1, x.count(4));
        x.call(0, 7);
        x.car(0);
        CHECK.illegalState("a street of another name", () -> x.clear(0, 0));
        CHECK.illegalState("a call without a doubt", () -> x.clear(1, 0));
        call(x, 1, CompassRolls.WAITING);
        CHECK.due("cleared, but another is ahead of it by nearness", 0, x.clear(0, 2));
        call(x, 0, CompassRolls.SENT, 2, 2, 0, 8, 0);
        CHECK.due("none in doubt", 0, x.count(4));
        CHECK.illegalState("cleared already", () -> x.clear(0, 2));
        x.same(1, 11);
        x.call(11, 3);
        CHECK.due("no car for it", NONE, x.clear(2, 3));
        call(x, 2, CompassRolls.WAITING, 3, 3, NONE, NONE, 0);
        x.car(1);
        x.car(3);
        x.call(1, 3);
        call(x, 3, CompassRolls.IN_DOUBT);
        call(x, 1, CompassRolls.SENT, 0, 0, 1, 5, 0);
        call(x, 2, CompassRolls.SENT, 3, 3, 2, 0, 0);
        CHECK.due("all cars are away", NONE, x.clear(3, 1));
        x.car(1);
        x.call(1, 4);
        call(x, 3, CompassRolls.SENT, 1, 1, 3, 0, 0);
        call(x, 4, CompassRolls.IN_DOUBT);
    }

    /** A call goes by what its name led to when it was told. */
    private static void toldNames() {
        CompassRolls x = Town.built();
        x.call(1, 5);
        x.call(8, 5);
        x.name(1, 8);
        x.name(2, 1);
        x.pass(1);
        call(x, 0, CompassRolls.WAITING, 1, 1, NONE, NONE, 0);
        call(x, 1, CompassRolls.LOST, NONE, NONE, NONE, NONE, 0);
        x.car(2);
        x.pass(1);
        call(x, 0, CompassRolls.SENT, 1, 1, 0, 5, 0);
    }

    private static void doubtsGone() {
        CompassRolls x = Town.built();
        x.name(2, 1);
        x.span(1, 200, 300, 0);
        x.call(1, 7);
        x.name(1, 12);
        CHECK.illegalState("it bears the name no more", () -> x.clear(0, 1));
        x.name(3, 13);
        x.same(13, 1);
        x.name(0, 13);
        x.car(0);
        CHECK.due("a street that came to bear it", 0, x.clear(0, 0));
        call(x, 0, CompassRolls.SENT, 0, 0, 0, 0, 0);
        x.name(1, 1);
        x.span(3, 250, 250, 3);
        x.call(13, 250);
        call(x, 1, CompassRolls.IN_DOUBT);
        CHECK.illegalState("it has not the number", () -> x.clear(1, 2));
        CHECK.due("cleared to another place", NONE, x.clear(1, 1));
        call(x, 1, CompassRolls.WAITING, 1, 0, NONE, NONE, 0);
        x.pass(10);
        call(x, 1, CompassRolls.SENT, 1, 0, 0, 10, 0);
    }

    private static void limits() {
        CompassRolls x = Town.built();
        for (int i = 0; i < 40; i++) {
            CHECK.due("call", i, x.call(i % 5, 1));
        }
        CHECK.illegalState("the 41st call", () -> x.call(0, 1));
        CHECK.illegalArgument("out of range ahead of 40 calls", () -> x.call(0, 0));
        CHECK.outOfBounds("no such name ahead of 40 calls", () -> x.call(30, 0));
        CHECK.due("32 calls wait, 8 are lost", 32, x.count(3));
        x.car(0);
        for (int i = 0; i < 40; i++) {
            call(x, i, i % 5 == 4 ? CompassRolls.LOST : CompassRolls.WAITING);
        }
        x.pass(3000);
        CHECK.due("24 are done", 24, x.count(5));
        CHECK.due("8 have no way", 8, x.count(3));
    }

    private static void wrongInputs() {
        CompassRolls x = Town.built();
        x.name(2, 1);
        x.call(1, 1);
        x.car(0);
        for (int wrong : new int[] {-1, 1, Integer.MIN_VALUE, Integer.MAX_VALUE}) {
            CHECK.outOfBounds("clear of call " + wrong, () -> x.clear(wrong, 1));
            CHECK.outOfBounds("ofCall " + wrong, () -> x.ofCall(wrong, 0));
            CHECK.outOfBounds("ofCar " + wrong, () -> x.ofCar(wrong, 0));
        }
        for (int wrong : new int[] {-1, 4, Integer.MIN_VALUE, Integer.MAX_VALUE}) {
            CHECK.outOfBounds("car at " + wrong, () -> x.car(wrong));
            CHECK.outOfBounds("clear to street " + wrong, () -> x.clear(0, wrong));
        }
        for (int wrong : new int[] {-1, 30, Integer.MIN_VALUE, Integer.MAX_VALUE}) {
            CHECK.outOfBounds("call of " + wrong, () -> x.call(wrong, 0));
            CHECK.outOfBounds("what " + wrong, () -> x.ofCall(0, wrong));
            CHECK.outOfBounds("what " + wrong, () -> x.ofCar(0, wrong));
        }
        CHECK.outOfBounds("what 6 of a call", () -> x.ofCall(0, 6));
        CHECK.outOfBounds("what 3 of a car", () -> x.ofCar(0, 3));
        for (int wrong : new int[] {0, 1000, -1, Integer.MIN_VALUE, Integer.MAX_VALUE}) {
            CHECK.illegalArgument("call of number " + wrong, () -> x.call(0, wrong));
        }
        CHECK.due("nothing is changed", 0, x.clear(0, 1));
        CHECK.due("the next call", 1, x.call(0, 1));
        CHECK.outOfBounds("no such street ahead of no doubt", () -> x.clear(1, 4));
    }
}
