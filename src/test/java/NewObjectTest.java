/** Promise 1: the minute 0, nothing built. */
final class NewObjectTest {
    private static final Check CHECK = new Check("NewObjectTest");

    public static void main(String[] args) {
        minuteZero();
        nothingCounted();
        nothingBuilt();
        namesLeadNowhere();
        noNamesAreTheSame();
        firstNumbers();
        objectsOfTheirOwn();
        CHECK.end();
    }

    private static void minuteZero() {
        CHECK.due("pass(1)", 1, new CompassRolls().pass(1));
        CHECK.due("pass(3000)", 3000, new CompassRolls().pass(3000));
    }

    private static void nothingCounted() {
        CompassRolls x = new CompassRolls();
        for (int what = 0; what <= 8; what++) {
            CHECK.due("count(" + what + ")", 0, x.count(what));
        }
    }

    private static void nothingBuilt() {
        CompassRolls x = new CompassRolls();
        CHECK.outOfBounds("way", () -> x.way(0, 0));
        CHECK.outOfBounds("join", () -> x.join(0, 1, 1));
        CHECK.outOfBounds("car", () -> x.car(0));
        CHECK.outOfBounds("locker", () -> x.locker(0, 0, 0, 0));
        CHECK.outOfBounds("placeOf", () -> x.placeOf(0, 1));
        CHECK.outOfBounds("name", () -> x.name(0, 0));
        CHECK.outOfBounds("span", () -> x.span(0, 1, 1, 0));
        CHECK.outOfBounds("ofCall", () -> x.ofCall(0, 0));
        CHECK.outOfBounds("clear", () -> x.clear(0, 0));
        CHECK.outOfBounds("ofCar", () -> x.ofCar(0, 0));
        CHECK.outOfBounds("ofParcel", () -> x.ofParcel(0, 0));
        CHECK.outOfBounds("take", () -> x.take(0));
        CHECK.outOfBounds("free", () -> x.free(0, 0));
    }

    private static void namesLeadNowhere() {
        CompassRolls x = new CompassRolls();
        for (int name = 0; name < 30; name++) {
            CHECK.due("leads(" + name + ", 1)", CompassRolls.NONE, x.leads(name, 1));
            CHECK.due("leads(" + name + ", 999)", CompassRolls.NONE, x.leads(name, 999));
            CHECK.due("leadsAnew(" + name + ", 1)", CompassRolls.NONE, x.leadsAnew(name, 1));
            CHECK.due("leadsAnew(" + name + ", 999)", CompassRolls.NONE, x.leadsAnew(name, 999));
        }
    }

    private static void noNamesAreTheSame() {
        for (int name = 0; name < 30; name++) {
            CompassRolls x = new CompassRolls();
            for (int other = 0; other < 30; other++) {
                CHECK.due("same(" + name + ", " + other + ")", name != other, x.same(name, other));
            }
        }
    }

    private static void firstNumbers() {
        CompassRolls x = new CompassRolls();
        CHECK.due("call", 0, x.call(0, 1));
        CHECK.due("post", 0, x.post(0, 1, 0));
        CHECK.due("place", 0, x.place());
        CHECK.due("street", 0, x.street());
        CHECK.due("span", 1, x.span(0, 1, 1, 0));
        CHECK.due("name", CompassRolls.NONE, x.name(0, 0));
        CHECK.due("car", 0, x.car(0));
        CHECK.due("locker", 0, x.locker(0, 1, 1, 1));
        x.place();
        CHECK.due("join", 1, x.join(0, 1, 1));
    }

    private static void objectsOfTheirOwn() {
        CompassRolls full = Town.built();
        full.car(0);
        full.same(0, 1);
        full.pass(100);
        CompassRolls x = new CompassRolls();
        CHECK.due("place", 0, x.place());
        CHECK.due("street", 0, x.street());
        CHECK.due("leads", CompassRolls.NONE, x.leads(0, 1));
        CHECK.due("same", true, x.same(0, 1));
        CHECK.due("pass", 1, x.pass(1));
        CHECK.due("the other one's minute", 101, full.pass(1));
    }
}
