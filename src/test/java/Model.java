import java.util.ArrayList;
import java.util.Arrays;
import java.util.Comparator;
import java.util.List;

/** The document told a second time, day by day and from all that was told, with no thought of speed. */
final class Model {
    private static final int DAYS = 10000;
    private static final IndexOutOfBoundsException NO_SUCH = new IndexOutOfBoundsException();
    private static final IllegalArgumentException RANGE = new IllegalArgumentException();
    private static final IllegalStateException STATE = new IllegalStateException();

    private static final class Box {
        int kind;
        int lessor;
        int until;
        boolean dirty;
        int booking = -1;
        boolean gone;
        int gonePort;
        int goneMonth;
        int leasesTold;
        final boolean[] onLease = new boolean[DAYS];
        final List<int[]> reports = new ArrayList<>();
        final List<int[]> damages = new ArrayList<>();
    }

    private static final class Booking {
        int port;
        int kind;
        int boxes;
        boolean over;
    }

    private final List<Box> boxes = new ArrayList<>();
    private final List<Booking> bookings = new ArrayList<>();
    private final int[][] costs = new int[6][6];
    private final int[][] quotas = new int[3][6];
    private final int[] standards = {3, 3, 3, 3, 3};
    private int now = 0;
    private int freeDays = 5;
    private int limitMoney = 500;

    Model() {
        for (int i = 0; i < 6; i++) {
            Arrays.fill(costs[i], 100);
            costs[i][i] = 0;
        }
        for (int[] row : quotas) {
            Arrays.fill(row, 2);
        }
    }

    private static void such(boolean holds) {
        if (!holds) {
            throw NO_SUCH;
        }
    }

    private static void range(int value, int least, int most) {
        if (!(least <= value && value <= most)) {
            throw RANGE;
        }
    }

    private static void state(boolean holds) {
        if (!holds) {
            throw STATE;
        }
    }

    private static boolean isPort(int port) {
        return 0 <= port && port <= 5;
    }

    private Box known(int box) {
        such(0 <= box && box < boxes.size());
        return boxes.get(box);
    }

    int cost(int from, int to, int cost) {
        such(isPort(from) && isPort(to));
        range(from == to ? -1 : cost, 0, 9999);
        int was = costs[from][to];
        costs[from][to] = cost;
        return was;
    }

    int box(int kind, int lessor, int until) {
        such(-1 <= lessor && lessor <= 2);
        range(kind, 0, 2);
        range(until, 0, 9999);
        state(boxes.size() < 40);
        Box box = new Box();
        box.kind = kind;
        box.lessor = lessor;
        box.until = until;
        boxes.add(box);
        return boxes.size() - 1;
    }

    boolean wash(int number, int until) {
        Box box = known(number);
        range(until, 0, 9999);
        state(!box.gone);
        boolean was = box.dirty;
        box.dirty = false;
        box.until = until;
        return was;
    }

    int report(int number, int day, int event, int port) {
        Box box = known(number);
        such(isPort(port));
        range(day, 0, now);
        range(event, 0, 3);
        state(!box.gone);
        state(box.reports.size() < 30);
        for (int[] told : box.reports) {
            if (Arrays.equals(told, new int[] {day, event, port})) {
                return -1;
            }
        }
        box.reports.add(new int[] {day, event, port});
        return live(box, DAYS)[1];
    }

    /** The place behind all reports up to a day, and how many of these are doubtful. */
    private static int[] live(Box box, int lastDay) {
        List<int[]> byDays = new ArrayList<>(box.reports);
        byDays.sort(Comparator.comparingInt(told -> told[0]));
        int place = 10;
        int doubtful = 0;
        for (int[] told : byDays) {
            if (told[0] > lastDay) {
                break;
            }
            int event = told[1];
            int port = told[2];
            if (event == 0 && (place == 10 || place == 11)) {
                place = port;
            } else if (event == 3 && (place == 10 || place == 12)) {
                place = port;
            } else if (event == 1 && place == port) {
                place = 11;
            } else if (event == 2 && place == port) {
                place = 12;
            } else {
                doubtful++;
            }
        }
        return new int[] {place, doubtful};
    }

    private static int placeOf(Box box, int day) {
        return live(box, day)[0];
    }

    int place(int number, int day) {
        Box box = known(number);
        range(day, 0, 9999);
        return placeOf(box, day);
    }

    int count(int port, int kind, int day) {
        such(isPort(port));
        range(kind, -1, 2);
        range(day, 0, 9999);
        int count = 0;
        for (Box box : boxes) {
            if (placeOf(box, day) == port && (kind == -1 || kind == box.kind)) {
                count++;
            }
        }
        return count;
    }

    int days(int number, int from, int to, int place) {
        Box box = known(number);
        range(from, 0, 9999);
        range(to, from, from + 400);
        if (!isPort(place)) {
            range(place, 10, 12);
        }
        int days = 0;
        for (int day = from; day <= to; day++) {
            days += placeOf(box, day) == place ? 1 : 0;
        }
        return days;
    }

    void lease(int number, int from, int to) {
        Box box = known(number);
        range(from, 0, 9999);
        range(to, from, 9999);
        state(box.lessor >= 0 && !box.gone && box.leasesTold < 10);
        box.leasesTold++;
        for (int day = from; day < DAYS; day++) {
            box.onLease[day] = day <= to;
        }
    }

    int free(int days) {
        range(days, 0, 30);
        int was = freeDays;
        freeDays = days;
        return was;
    }

    int payer(int number, int day) {
        Box box = known(number);
        range(day, 0, 9999);
        boolean customer = true;
        for (int ahead = 0; ahead <= freeDays; ahead++) {
            customer &= day - ahead >= 0 && placeOf(box, day - ahead) == 11;
        }
        if (customer) {
            return 2;
        }
        return box.lessor < 0 || box.onLease[day] ? 0 : 1;
    }

    int quota(int lessor, int port, int most) {
        such(0 <= lessor && lessor <= 2 && isPort(port));
        range(most, 0, 9);
        int was = quotas[lessor][port];
        quotas[lessor][port] = most;
        return was;
    }

    int handIn(int number) {
        Box box = known(number);
        int port = placeOf(box, now);
        state(!box.gone && box.onLease[now] && isPort(port) && box.booking < 0);
        int handed = 0;
        for (Box other : boxes) {
            if (other.gone && other.lessor == box.lessor && other.gonePort == port && other.goneMonth == now / 30) {
                handed++;
            }
        }
        state(handed < quotas[box.lessor][port]);
        Arrays.fill(box.onLease, now + 1, DAYS, false);
        box.gone = true;
        box.gonePort = port;
        box.goneMonth = now / 30;
        return quotas[box.lessor][port] - handed - 1;
    }

    private List<int[]> counting(Box box) {
        List<int[]> counting = new ArrayList<>();
        for (int[] damage : box.damages) {
            if (damage[1] > standards[damage[0]]) {
                counting.add(damage);
            }
        }
        return counting;
    }

    private int mending(Box box) {
        int cost = 0;
        for (int[] damage : counting(box)) {
            cost += damage[1] * (damage[0] + 1) * 10;
        }
        return cost;
    }

    int damage(int number, int code, int size) {
        Box box = known(number);
        such(0 <= code && code <= 4);
        range(size, 1, 20);
        state(!box.gone && box.damages.size() < 12);
        box.damages.add(new int[] {code, size});
        return mending(box);
    }

    int standard(int code, int size) {
        such(0 <= code && code <= 4);
        range(size, 0, 20);
        int was = standards[code];
        standards[code] = size;
        return was;
    }

    int limit(int money) {
        range(money, 0, 9999);
        int was = limitMoney;
        limitMoney = money;
        return was;
    }

    int mend(int number) {
        Box box = known(number);
        int cost = mending(box);
        state(!box.gone && !counting(box).isEmpty() && cost <= limitMoney);
        box.damages.clear();
        return cost;
    }

    int book(int port, int kind, int wanted) {
        such(isPort(port));
        range(kind, 0, 2);
        range(wanted, 1, 9);
        state(bookings.size() < 20);
        Booking booking = new Booking();
        booking.port = port;
        booking.kind = kind;
        booking.boxes = wanted;
        bookings.add(booking);
        return bookings.size() - 1;
    }

    private int given(int booking) {
        int given = 0;
        for (Box box : boxes) {
            given += box.booking == booking ? 1 : 0;
        }
        return given;
    }

    private int lacking(int booking) {
        Booking known = bookings.get(booking);
        return known.over ? 0 : known.boxes - given(booking);
    }

    private boolean fit(Box box, int port) {
        return placeOf(box, now) == port && !box.gone && box.booking < 0 && !box.dirty && box.until >= now
            && counting(box).isEmpty();
    }

    int serve() {
        int served = 0;
        for (int booking = 0; booking < bookings.size(); booking++) {
            int lacks = lacking(booking);
            List<Integer> order = new ArrayList<>();
            for (int number = 0; number < boxes.size(); number++) {
                if (fit(boxes.get(number), bookings.get(booking).port)
                    && boxes.get(number).kind >= bookings.get(booking).kind) {
                    order.add(number);
                }
            }
            order.sort(Comparator.comparingInt(number -> 100 * boxes.get(number).kind + number));
            for (int i = 0; i < lacks && i < order.size(); i++) {
                boxes.get(order.get(i)).booking = booking;
                served++;
            }
        }
        return served;
    }

    int end(int number) {
        such(0 <= number && number < bookings.size());
        state(!bookings.get(number).over);
        int had = given(number);
        bookings.get(number).over = true;
        for (Box box : boxes) {
            if (box.booking == number) {
                box.booking = -1;
                box.dirty = true;
            }
        }
        return had;
    }

    int bring(int kind) {
        range(kind, 0, 2);
        return plan(kind)[0];
    }

    int brings(int kind, int unit) {
        range(kind, 0, 2);
        such(unit >= 0);
        int[] plan = plan(kind);
        return unit < plan.length - 1 ? plan[unit + 1] : -1;
    }

    /** The least cost, then the box of each unit. */
    private int[] plan(int kind) {
        int[] lacks = new int[6];
        List<Integer> units = new ArrayList<>();
        for (int port = 0; port < 6; port++) {
            for (int booking = 0; booking < bookings.size(); booking++) {
                if (bookings.get(booking).port == port && bookings.get(booking).kind == kind) {
                    lacks[port] += lacking(booking);
                }
            }
            for (int i = 0; i < lacks[port]; i++) {
                units.add(port);
            }
        }
        state(units.size() <= 5);
        List<Integer> over = new ArrayList<>();
        for (int number = 0; number < boxes.size(); number++) {
            Box box = boxes.get(number);
            int port = placeOf(box, now);
            if (box.kind == kind && isPort(port) && lacks[port] == 0 && fit(box, port)) {
                over.add(number);
            }
        }
        int[] plan = new int[units.size() + 1];
        plan[0] = worth(units, 0, over) % 1000000;
        for (int unit = 0; unit < units.size(); unit++) {
            plan[unit + 1] = choose(units, unit, over);
        }
        return plan;
    }

    /** The lowest box with which the units from this one on are still brought for as much as can be; it is taken. */
    private int choose(List<Integer> units, int unit, List<Integer> over) {
        int best = worth(units, unit, over);
        for (int i = 0; i < over.size(); i++) {
            List<Integer> left = new ArrayList<>(over);
            int box = left.remove(i);
            int cost = costs[placeOf(boxes.get(box), now)][units.get(unit)];
            if (worth(units, unit + 1, left) + cost == best) {
                over.remove(i);
                return box;
            }
        }
        return -1;
    }

    /** A million for each unit from one on that goes without, and the least cost of all others, over sets of units. */
    private int worth(List<Integer> units, int first, List<Integer> over) {
        int sets = 1 << (units.size() - first);
        int[] least = new int[sets];
        Arrays.fill(least, Integer.MAX_VALUE / 2);
        least[0] = 0;
        for (int box : over) {
            int from = placeOf(boxes.get(box), now);
            for (int set = sets - 1; set > 0; set--) {
                for (int unit = first; unit < units.size(); unit++) {
                    int bit = 1 << (unit - first);
                    if ((set & bit) != 0) {
                        least[set] = Math.min(least[set], least[set ^ bit] + costs[from][units.get(unit)]);
                    }
                }
            }
        }
        int best = Integer.MAX_VALUE;
        for (int set = 0; set < sets; set++) {
            int without = units.size() - first - Integer.bitCount(set);
            best = Math.min(best, least[set] + 1000000 * without);
        }
        return best;
    }

    int boxIs(int number, int what) {
        Box box = known(number);
        range(what, 0, 7);
        int[] all = {box.kind, box.lessor, box.gone ? 1 : 0, box.dirty ? 1 : 0, box.booking, mending(box),
            live(box, DAYS)[1], box.onLease[now] ? 1 : 0};
        return all[what];
    }

    int lacks(int number) {
        such(0 <= number && number < bookings.size());
        return lacking(number);
    }

    int pass(int days) {
        range(days, 1, 400);
        state(now + days <= 9999);
        now += days;
        return now;
    }
}
