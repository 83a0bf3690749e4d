import java.util.ArrayList;
import java.util.List;

/**
 * The document once more, for RandomRunsTest: it keeps records of what was told, in plain lists,
 * and works every answer out from them anew. An answer is a number or the name of an exception.
 */
final class Retold {
    private static final String B = "IndexOutOfBoundsException";
    private static final String A = "IllegalArgumentException";
    private static final String S = "IllegalStateException";
    private static final int FAR = 1_000_000;

    private record Way(int one, int other, int minutes) { }
    private record Span(int street, int from, int to, int place) { }
    private record Naming(int street, int name, int minute) { }
    private record Pair(int name, int other) { }

    private static final class Call {
        int name, number;
        boolean doubt, lost, old;
        int street = -1, place = -1, car = -1, there = -1;
    }

    private static final class Locker {
        int place;
        int[] sizes;
    }

    private static final class Parcel {
        int name, number, size, ledAtFirst;
        int locker = -1, compartment = -1, heldAt = -1, takenAt = -1, returnedAt = -1;
        boolean sentOn;
    }

    private int now = 0;
    private int places = 0;
    private int streets = 0;
    private final List<Way> ways = new ArrayList<>();
    private final List<Span> spans = new ArrayList<>();
    private final List<Naming> namings = new ArrayList<>();
    private final List<Pair> pairs = new ArrayList<>();
    private final List<Integer> carsAtFirst = new ArrayList<>();
    private final List<Call> calls = new ArrayList<>();
    private final List<Locker> lockers = new ArrayList<>();
    private final List<Parcel> parcels = new ArrayList<>();

    String answer(String call, int a, int b, int c, int d) {
        switch (call) {
            case "place": return places >= 12 ? S : "" + places++;
            case "join": return join(a, b, c);
            case "street": return streets >= 12 ? S : "" + streets++;
            case "span": return span(a, b, c, d);
            case "name": return name(a, b);
            case "same": return same(a, b);
            case "leads": case "leadsAnew": return bad(a, 30) ? B : noNumber(b) ? A : "" + leads(a, b);
            case "placeOf": return bad(a, streets) ? B : noNumber(b) ? A : "" + placeOf(a, b);
            case "way": return bad(a, places) || bad(b, places) ? B : "" + way(a, b);
            case "car": return car(a);
            case "call": return call(a, b);
            case "clear": return clear(a, b);
            case "ofCall": return bad(a, calls.size()) || bad(b, 6) ? B : "" + ofCall(calls.get(a), b);
            case "ofCar": return bad(a, carsAtFirst.size()) || bad(b, 3) ? B : "" + ofCar(a, b);
            case "locker": return locker(a, b, c, d);
            case "post": return post(a, b, c);
            case "take": return take(a);
            case "ofParcel": return bad(a, parcels.size()) || bad(b, 4) ? B : "" + ofParcel(parcels.get(a), b);
            case "free": return bad(a, lockers.size()) || bad(b, 3) ? B : "" + unused(a, b);
            case "pass": return pass(a);
            case "count": return bad(a, 9) ? A : "" + count(a);
            default: throw new IllegalArgumentException(call);
        }
    }

    private static boolean bad(int index, int count) {
        return index < 0 || index >= count;
    }

    private static boolean noNumber(int number) {
        return number < 1 || number > 999;
    }

    // ---- places, streets, names

    private String join(int place, int other, int minutes) {
        if (bad(place, places) || bad(other, places)) return B;
        if (place == other || minutes < 1 || minutes > 60) return A;
        if (ways.size() >= 24) return S;
        ways.add(new Way(place, other, minutes));
        return "" + ways.size();
    }

    private int way(int place, int other) {
        int[] far = new int[places];
        for (int i = 0; i < places; i++) {
            far[i] = i == place ? 0 : FAR;
        }
        for (int round = 0; round < places; round++) {
            for (Way way : ways) {
                far[way.one] = Math.min(far[way.one], far[way.other] + way.minutes);
                far[way.other] = Math.min(far[way.other], far[way.one] + way.minutes);
            }
        }
        return far[other] >= FAR ? -1 : far[other];
    }

    private String span(int street, int from, int to, int place) {
        if (bad(street, streets) || bad(place, places)) return B;
        if (noNumber(from) || noNumber(to) || to < from) return A;
        int had = 0;
        for (Span span : spans) {
            had += span.street == street ? 1 : 0;
        }
        if (had >= 4) return S;
        for (int number = from; number <= to; number++) {
            if (placeOf(street, number) != -1) return S;
        }
        spans.add(new Span(street, from, to, place));
        return "" + (had + 1);
    }

    private int placeOf(int street, int number) {
        for (Span span : spans) {
            if (span.street == street && span.from <= number && number <= span.to) return span.place;
        }
        return -1;
    }

    private int borne(int street) {
        int name = -1;
        for (Naming naming : namings) {
            if (naming.street == street) name = naming.name;
        }
        return name;
    }

    private String name(int street, int name) {
        if (bad(street, streets) || bad(name, 30)) return B;
        int before = borne(street);
        if (before == name || namings.size() >= 100) return S;
        namings.add(new Naming(street, name, now));
        return "" + before;
    }

    private boolean[] allSame(int name) {
        boolean[] same = new boolean[30];
        same[name] = true;
        for (int round = 0; round < 30; round++) {
            for (Pair pair : pairs) {
                boolean either = same[pair.name] || same[pair.other];
                same[pair.name] = either;
                same[pair.other] = either;
            }
        }
        return same;
    }

    private String same(int name, int other) {
        if (bad(name, 30) || bad(other, 30)) return B;
        boolean were = allSame(name)[other];
        pairs.add(new Pair(name, other));
        return were ? "0" : "1";
    }

    private List<Integer> bearers(int name, int number) {
        boolean[] same = allSame(name);
        List<Integer> found = new ArrayList<>();
        for (int street = 0; street < streets; street++) {
            int borne = borne(street);
            if (borne != -1 && same[borne] && placeOf(street, number) != -1) found.add(street);
        }
        return found;
    }

    private int leads(int name, int number) {
        List<Integer> found = bearers(name, number);
        if (found.size() == 1) return found.get(0);
        return found.isEmpty() ? leadsOfOld(name, number) : -2;
    }

    private int leadsOfOld(int name, int number) {
        boolean[] same = allSame(name);
        int best = -1;
        int latest = -1;
        for (int i = 0; i < namings.size(); i++) {
            Naming began = namings.get(i);
            int ceased = same[began.name] ? nextNaming(i) : -1;
            boolean better = ceased > latest || ceased == latest && began.street < best;
            if (ceased != -1 && better && placeOf(began.street, number) != -1) {
                best = began.street;
                latest = ceased;
            }
        }
        return best;
    }

    /** The minute of the next naming of the same street, -1 without. */
    private int nextNaming(int i) {
        for (int j = i + 1; j < namings.size(); j++) {
            if (namings.get(j).street == namings.get(i).street) return namings.get(j).minute;
        }
        return -1;
    }

    // ---- calls, cars

    private String car(int place) {
        if (bad(place, places)) return B;
        if (carsAtFirst.size() >= 6) return S;
        carsAtFirst.add(place);
        return "" + (carsAtFirst.size() - 1);
    }

    /** The last call to which the car was sent, null without. */
    private Call lastOf(int car) {
        Call last = null;
        for (Call call : calls) {
            if (call.car == car && (last == null || call.there > last.there)) last = call;
        }
        return last;
    }

    private int freeAt(int car) {
        return lastOf(car) == null ? 0 : lastOf(car).there + 10;
    }

    private int at(int car) {
        return lastOf(car) == null ? carsAtFirst.get(car) : lastOf(car).place;
    }

    private int state(Call call) {
        if (call.lost) return 4;
        if (call.doubt) return 3;
        if (call.car == -1) return 0;
        return now >= call.there + 10 ? 2 : 1;
    }

    private String call(int name, int number) {
        if (bad(name, 30)) return B;
        if (noNumber(number)) return A;
        if (calls.size() >= 40) return S;
        Call call = new Call();
        call.name = name;
        call.number = number;
        int street = leads(name, number);
        call.doubt = street == -2;
        call.lost = street == -1;
        if (street >= 0) {
            call.street = street;
            call.place = placeOf(street, number);
            call.old = bearers(name, number).isEmpty();
        }
        calls.add(call);
        send();
        return "" + (calls.size() - 1);
    }

    private String clear(int number, int street) {
        if (bad(number, calls.size()) || bad(street, streets)) return B;
        Call call = calls.get(number);
        if (!call.doubt || !bearers(call.name, call.number).contains(street)) return S;
        call.doubt = false;
        call.street = street;
        call.place = placeOf(street, call.number);
        send();
        return "" + call.car;
    }

    private void send() {
        for (Call call : calls) {
            if (state(call) != 0) continue;
            int best = -1;
            for (int car = 0; car < carsAtFirst.size(); car++) {
                if (freeAt(car) > now || way(at(car), call.place) == -1) continue;
                if (best == -1 || way(at(car), call.place) < way(at(best), call.place)) best = car;
            }
            if (best == -1) continue;
            int there = now + way(at(best), call.place) + (call.old ? 1 : 0);
            call.there = there;
            call.car = best;
        }
    }

    private int ofCall(Call call, int what) {
        return new int[] {state(call), call.street, call.place, call.car, call.there, call.old ? 1 : 0}[what];
    }

    private int ofCar(int car, int what) {
        int minutes = Math.max(0, freeAt(car) - now);
        return new int[] {minutes == 0 ? 1 : 0, at(car), minutes}[what];
    }

    // ---- parcels, lockers

    private String locker(int place, int small, int middle, int big) {
        if (bad(place, places)) return B;
        if (bad(small, 10) || bad(middle, 10) || bad(big, 10)) return A;
        if (lockers.size() >= 6) return S;
        Locker locker = new Locker();
        locker.place = place;
        locker.sizes = new int[] {small, middle, big};
        lockers.add(locker);
        return "" + (lockers.size() - 1);
    }

    private int state(Parcel parcel) {
        if (parcel.heldAt == -1) return 0;
        if (parcel.takenAt != -1) return 2;
        return parcel.returnedAt != -1 ? 3 : 1;
    }

    private int unused(int locker, int size) {
        int unused = lockers.get(locker).sizes[size];
        for (Parcel parcel : parcels) {
            if (state(parcel) == 1 && parcel.locker == locker && parcel.compartment == size) unused--;
        }
        return unused;
    }

    private String post(int name, int number, int size) {
        if (bad(name, 30)) return B;
        if (noNumber(number) || bad(size, 3)) return A;
        if (parcels.size() >= 40) return S;
        Parcel parcel = new Parcel();
        parcel.name = name;
        parcel.number = number;
        parcel.size = size;
        parcel.ledAtFirst = leads(name, number);
        parcels.add(parcel);
        return "" + (parcels.size() - 1);
    }

    private String take(int number) {
        if (bad(number, parcels.size())) return B;
        Parcel parcel = parcels.get(number);
        if (state(parcel) != 1) return S;
        parcel.takenAt = now;
        return "" + (now - parcel.heldAt);
    }

    private int ofParcel(Parcel parcel, int what) {
        return new int[] {state(parcel), parcel.locker, parcel.compartment, parcel.sentOn ? 1 : 0}[what];
    }

    private void beginDay() {
        for (Parcel parcel : parcels) {
            if (state(parcel) == 1 && now == parcel.heldAt + 4320) parcel.returnedAt = now;
        }
        for (Parcel parcel : parcels) {
            int street = state(parcel) == 0 ? leads(parcel.name, parcel.number) : -1;
            if (street >= 0) deliver(parcel, street, placeOf(street, parcel.number));
        }
    }

    private void deliver(Parcel parcel, int street, int place) {
        int best = FAR;
        for (int locker = 0; locker < lockers.size(); locker++) {
            int way = way(place, lockers.get(locker).place);
            for (int size = parcel.size; size < 3; size++) {
                if (way != -1 && way < best && unused(locker, size) > 0) {
                    best = way;
                    parcel.locker = locker;
                    parcel.compartment = size;
                }
            }
        }
        if (best != FAR) {
            parcel.heldAt = now;
            parcel.sentOn = street != parcel.ledAtFirst;
        }
    }

    private String pass(int minutes) {
        if (minutes < 1 || minutes > 3000) return A;
        if (now + minutes > 100000) return S;
        for (int i = 0; i < minutes; i++) {
            now++;
            if (now % 1440 == 0) beginDay();
            send();
        }
        return "" + now;
    }

    private int count(int what) {
        switch (what) {
            case 0: return streets;
            case 1: return namings.size();
            case 2: return freeCars();
            case 3: return countCalls(0);
            case 4: return countCalls(3);
            case 5: return countCalls(2);
            case 6: return countParcels(0);
            case 7: return countParcels(1);
            default: return countSentOn();
        }
    }

    private int freeCars() {
        int counted = 0;
        for (int car = 0; car < carsAtFirst.size(); car++) {
            counted += freeAt(car) <= now ? 1 : 0;
        }
        return counted;
    }

    private int countCalls(int state) {
        int counted = 0;
        for (Call call : calls) {
            counted += state(call) == state ? 1 : 0;
        }
        return counted;
    }

    private int countParcels(int state) {
        int counted = 0;
        for (Parcel parcel : parcels) {
            counted += state(parcel) == state ? 1 : 0;
        }
        return counted;
    }

    private int countSentOn() {
        int counted = 0;
        for (Parcel parcel : parcels) {
            counted += parcel.sentOn ? 1 : 0;
        }
        return counted;
    }
}
