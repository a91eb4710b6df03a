/** Empty boxes of the world: where they are, who pays for them, and which of them serve bookings. */
public final class BoxPool {
    public static final int NONE = -1;
    public static final int IN = 0, OUT = 1, LOAD = 2, LAND = 3;
    public static final int NOWHERE = 10, ROAD = 11, SHIP = 12;
    public static final int LINE = 0, OWNER = 1, CUSTOMER = 2;

    private static final int PORTS = 6;
    private static final int LESSORS = 3;
    private static final int KINDS = 3;
    private static final int CODES = 5;
    private static final int MOST_BOXES = 40;
    private static final int MOST_REPORTS = 30;
    private static final int MOST_LEASES = 10;
    private static final int MOST_DAMAGES = 12;
    private static final int MOST_BOOKINGS = 20;
    private static final int MOST_BOXES_OF_A_BOOKING = 9;
    private static final int MOST_UNITS = 5;
    private static final int MOST_FREE_DAYS = 30;
    private static final int MOST_QUOTA = 9;
    private static final int LARGEST_DAMAGE = 20;
    private static final int MOST_MONEY = 9999;
    private static final int DEARER_THAN_ANY_PLAN = MOST_UNITS * MOST_MONEY + 1;
    private static final int LAST_DAY = 9999;
    private static final int LONGEST_SPAN = 400;
    private static final int MONTH = 30;

    private static final int COST_AT_FIRST = 100;
    private static final int FREE_DAYS_AT_FIRST = 5;
    private static final int QUOTA_AT_FIRST = 2;
    private static final int STANDARD_AT_FIRST = 3;
    private static final int LIMIT_AT_FIRST = 500;

    private final int[][] costs = new int[PORTS][PORTS];
    private final int[][] quotas = new int[LESSORS][PORTS];
    private final int[] standards = new int[CODES];
    private final Box[] boxes = new Box[MOST_BOXES];
    private final Booking[] bookings = new Booking[MOST_BOOKINGS];
    private final Plan plan = new Plan();
    private int boxCount = 0;
    private int bookingCount = 0;
    private int today = 0;
    private int freeDays = FREE_DAYS_AT_FIRST;
    private int mendLimit = LIMIT_AT_FIRST;

    public BoxPool() {
        for (int from = 0; from < PORTS; from++) {
            for (int to = 0; to < PORTS; to++) {
                costs[from][to] = from == to ? 0 : COST_AT_FIRST;
            }
        }
        for (int lessor = 0; lessor < LESSORS; lessor++) {
            for (int port = 0; port < PORTS; port++) {
                quotas[lessor][port] = QUOTA_AT_FIRST;
            }
        }
        for (int code = 0; code < CODES; code++) {
            standards[code] = STANDARD_AT_FIRST;
        }
    }

    // ---- ports and boxes

    public int cost(int from, int to, int cost) throws IndexOutOfBoundsException, IllegalArgumentException {
        needPort(from);
        needPort(to);
        if (from == to) {
            throw new IllegalArgumentException("a box is brought from a port to another one");
        }
        needRange(cost, 0, MOST_MONEY);
        int before = costs[from][to];
        costs[from][to] = cost;
        return before;
    }

    public int box(int kind, int lessor, int until)
            throws IndexOutOfBoundsException, IllegalArgumentException, IllegalStateException {
        if (lessor != NONE) {
            needLessor(lessor);
        }
        needKind(kind);
        needRange(until, 0, LAST_DAY);
        if (boxCount >= MOST_BOXES) {
            throw new IllegalStateException("there are 40 boxes");
        }
        int number = boxCount;
        boxes[number] = new Box(kind, lessor, until);
        boxCount++;
        return number;
    }

    public boolean wash(int box, int until)
            throws IndexOutOfBoundsException, IllegalArgumentException, IllegalStateException {
        Box washed = boxAt(box);
        needRange(until, 0, LAST_DAY);
        needNotGone(washed);
        boolean wasDirty = washed.dirty;
        washed.dirty = false;
        washed.certifiedUntil = until;
        return wasDirty;
    }

    // ---- reports

    public int report(int box, int day, int event, int port)
            throws IndexOutOfBoundsException, IllegalArgumentException, IllegalStateException {
        Box moved = boxAt(box);
        needPort(port);
        needRange(day, 0, today);
        needRange(event, IN, LAND);
        needNotGone(moved);
        if (moved.life.isFull()) {
            throw new IllegalStateException("the box has 30 reports");
        }
        if (moved.life.knows(day, event, port)) {
            return NONE;
        }
        moved.life.tell(day, event, port);
        return moved.life.doubtful;
    }

    public int place(int box, int day) throws IndexOutOfBoundsException, IllegalArgumentException {
        Box asked = boxAt(box);
        needRange(day, 0, LAST_DAY);
        return asked.life.placeOn(day);
    }

    public int count(int port, int kind, int day) throws IndexOutOfBoundsException, IllegalArgumentException {
        needPort(port);
        if (kind != NONE) {
            needKind(kind);
        }
        needRange(day, 0, LAST_DAY);
        int counted = 0;
        for (Box each : boxes) {
            if (each != null && (kind == NONE || each.kind == kind) && each.life.placeOn(day) == port) {
                counted++;
            }
        }
        return counted;
    }

    public int days(int box, int from, int to, int place) throws IndexOutOfBoundsException, IllegalArgumentException {
        Box asked = boxAt(box);
        needRange(from, 0, LAST_DAY);
        needRange(to, from, from + LONGEST_SPAN);
        if (!isPort(place)) {
            needRange(place, NOWHERE, SHIP);
        }
        return asked.life.daysAt(place, from, to);
    }

    // ---- leases and payers

    public void lease(int box, int from, int to)
            throws IndexOutOfBoundsException, IllegalArgumentException, IllegalStateException {
        Box leased = boxAt(box);
        needRange(from, 0, LAST_DAY);
        needRange(to, from, LAST_DAY);
        if (leased.lessor == NONE) {
            throw new IllegalStateException("the box is the line's own");
        }
        needNotGone(leased);
        if (leased.leases.isFull()) {
            throw new IllegalStateException("the box has had 10 leases");
        }
        leased.leases.tell(from, to);
    }

    public int free(int days) throws IllegalArgumentException {
        needRange(days, 0, MOST_FREE_DAYS);
        int before = freeDays;
        freeDays = days;
        return before;
    }

    public int payer(int box, int day) throws IndexOutOfBoundsException, IllegalArgumentException {
        Box asked = boxAt(box);
        needRange(day, 0, LAST_DAY);
        // Days below 0 are asked for too: a box is NOWHERE on them, so no CUSTOMER pays too early.
        if (asked.life.daysAt(ROAD, day - freeDays, day) == freeDays + 1) {
            return CUSTOMER;
        }
        return asked.lessor == NONE || asked.leases.holdOn(day) ? LINE : OWNER;
    }

    public int quota(int lessor, int port, int boxes) throws IndexOutOfBoundsException, IllegalArgumentException {
        needLessor(lessor);
        needPort(port);
        needRange(boxes, 0, MOST_QUOTA);
        int before = quotas[lessor][port];
        quotas[lessor][port] = boxes;
        return before;
    }

    public int handIn(int box) throws IndexOutOfBoundsException, IllegalStateException {
        Box handed = boxAt(box);
        needNotGone(handed);
        if (!handed.leases.holdOn(today)) {
            throw new IllegalStateException("the box is not on lease today");
        }
        int port = handed.life.placeOn(today);
        if (!isPort(port)) {
            throw new IllegalStateException("the box is at no port");
        }
        if (handed.booking != NONE) {
            throw new IllegalStateException("the box is given to a booking");
        }
        int left = quotaLeft(handed.lessor, port);
        if (left <= 0) {
            throw new IllegalStateException("the quota is used up");
        }
        handed.leases.endOn(today);
        handed.goneDay = today;
        handed.gonePort = port;
        return left - 1;
    }

    // ---- damages

    public int damage(int box, int code, int size)
            throws IndexOutOfBoundsException, IllegalArgumentException, IllegalStateException {
        Box damaged = boxAt(box);
        needCode(code);
        needRange(size, 1, LARGEST_DAMAGE);
        needNotGone(damaged);
        if (damaged.damages.isFull()) {
            throw new IllegalStateException("the box has 12 damages");
        }
        damaged.damages.tell(code, size);
        return damaged.damages.mendCost(standards);
    }

    public int standard(int code, int size) throws IndexOutOfBoundsException, IllegalArgumentException {
        needCode(code);
        needRange(size, 0, LARGEST_DAMAGE);
        int before = standards[code];
        standards[code] = size;
        return before;
    }

    public int limit(int money) throws IllegalArgumentException {
        needRange(money, 0, MOST_MONEY);
        int before = mendLimit;
        mendLimit = money;
        return before;
    }

    public int mend(int box) throws IndexOutOfBoundsException, IllegalStateException {
        Box mended = boxAt(box);
        needNotGone(mended);
        int price = mended.damages.mendCost(standards);
        if (price == 0) {
            throw new IllegalStateException("the box has no damage that counts");
        }
        if (price > mendLimit) {
            throw new IllegalStateException("mending costs more than the limit");
        }
        mended.damages.clear();
        return price;
    }

    // ---- bookings and bringing

    public int book(int port, int kind, int boxes)
            throws IndexOutOfBoundsException, IllegalArgumentException, IllegalStateException {
        needPort(port);
        needKind(kind);
        needRange(boxes, 1, MOST_BOXES_OF_A_BOOKING);
        if (bookingCount >= MOST_BOOKINGS) {
            throw new IllegalStateException("there are 20 bookings");
        }
        int number = bookingCount;
        bookings[number] = new Booking(port, kind, boxes);
        bookingCount++;
        return number;
    }

    public int serve() {
        int given = 0;
        for (int number = 0; number < bookings.length; number++) {
            Booking booking = bookings[number];
            if (booking != null) {
                for (int kind = booking.kind; kind < KINDS; kind++) {
                    given += giveBoxes(booking, number, kind);
                }
            }
        }
        return given;
    }

    public int end(int booking) throws IndexOutOfBoundsException, IllegalStateException {
        Booking ended = bookingAt(booking);
        if (ended.over) {
            throw new IllegalStateException("the booking is over");
        }
        ended.over = true;
        for (Box each : boxes) {
            if (each != null && each.booking == booking) {
                each.booking = NONE;
                each.dirty = true;
            }
        }
        return ended.given;
    }

    public int bring(int kind) throws IllegalArgumentException, IllegalStateException {
        needKind(kind);
        makePlan(kind);
        return plan.leastCost;
    }

    public int brings(int kind, int unit)
            throws IllegalArgumentException, IndexOutOfBoundsException, IllegalStateException {
        needKind(kind);
        if (unit < 0) {
            throw new IndexOutOfBoundsException("no such unit");
        }
        makePlan(kind);
        return plan.boxOf(unit);
    }

    public int boxIs(int box, int what) throws IndexOutOfBoundsException, IllegalArgumentException {
        Box asked = boxAt(box);
        switch (what) {
            case 0:
                return asked.kind;
            case 1:
                return asked.lessor;
            case 2:
                return asNumber(asked.isGone());
            case 3:
                return asNumber(asked.dirty);
            case 4:
                return asked.booking;
            case 5:
                return asked.damages.mendCost(standards);
            case 6:
                return asked.life.doubtful;
            case 7:
                return asNumber(asked.leases.holdOn(today));
            default:
                throw new IllegalArgumentException("what is out of range");
        }
    }

    public int lacks(int booking) throws IndexOutOfBoundsException {
        return bookingAt(booking).lacking();
    }

    public int pass(int days) throws IllegalArgumentException, IllegalStateException {
        needRange(days, 1, LONGEST_SPAN);
        if (today + days > LAST_DAY) {
            throw new IllegalStateException("the day would be above 9999");
        }
        today += days;
        return today;
    }

    // ---- what arguments must be

    private static boolean isPort(int place) {
        return place >= 0 && place < PORTS;
    }

    private static boolean isLessor(int lessor) {
        return lessor >= 0 && lessor < LESSORS;
    }

    private static void needPort(int port) {
        if (!isPort(port)) {
            throw new IndexOutOfBoundsException("no such port");
        }
    }

    private static void needLessor(int lessor) {
        if (!isLessor(lessor)) {
            throw new IndexOutOfBoundsException("no such lessor");
        }
    }

    private static void needCode(int code) {
        if (code < 0 || code >= CODES) {
            throw new IndexOutOfBoundsException("no such code");
        }
    }

    private static void needKind(int kind) {
        needRange(kind, 0, KINDS - 1);
    }

    private static void needRange(int value, int least, int most) {
        if (value < least || value > most) {
            throw new IllegalArgumentException("an argument is out of range");
        }
    }

    private static void needNotGone(Box box) {
        if (box.isGone()) {
            throw new IllegalStateException("the box is GONE");
        }
    }

    private Box boxAt(int number) {
        Box found = number >= 0 && number < boxes.length ? boxes[number] : null;
        if (found == null) {
            throw new IndexOutOfBoundsException("no such box");
        }
        return found;
    }

    private Booking bookingAt(int number) {
        Booking found = number >= 0 && number < bookings.length ? bookings[number] : null;
        if (found == null) {
            throw new IndexOutOfBoundsException("no such booking");
        }
        return found;
    }

    private static int asNumber(boolean is) {
        return is ? 1 : 0;
    }

    // ---- handing in, serving and planning

    private int quotaLeft(int lessor, int port) {
        if (!isLessor(lessor) || !isPort(port)) {
            return 0;
        }
        int handed = 0;
        for (Box each : boxes) {
            if (each != null && each.isGone() && each.lessor == lessor && each.gonePort == port
                    && each.goneDay / MONTH == today / MONTH) {
                handed++;
            }
        }
        return quotas[lessor][port] - handed;
    }

    private int giveBoxes(Booking booking, int number, int kind) {
        int given = 0;
        for (Box each : boxes) {
            if (booking.lacking() <= 0) {
                return given;
            }
            if (each != null && each.kind == kind && canServe(each) && each.life.placeOn(today) == booking.port) {
                each.booking = number;
                booking.given++;
                given++;
            }
        }
        return given;
    }

    private boolean canServe(Box box) {
        return !box.isGone() && box.booking == NONE && !box.dirty && box.certifiedUntil >= today
                && box.damages.mendCost(standards) == 0;
    }

    private int lackingAt(int port, int kind) {
        int lacking = 0;
        for (Booking each : bookings) {
            if (each != null && each.port == port && each.kind == kind) {
                lacking += each.lacking();
            }
        }
        return lacking;
    }

    private void makePlan(int kind) {
        plan.clear();
        for (int port = 0; port < PORTS; port++) {
            plan.lack(port, lackingAt(port, kind));
        }
        if (plan.units > MOST_UNITS) {
            throw new IllegalStateException("more than 5 units lack");
        }
        for (int number = 0; number < boxes.length; number++) {
            Box each = boxes[number];
            if (each != null && each.kind == kind && canServe(each)) {
                plan.offer(number, each.life.placeOn(today));
            }
        }
        plan.work(costs);
    }

    /** A box: what it is, what was told of it, and what it is used for. */
    private static final class Box {
        final int kind;
        final int lessor;
        final Life life = new Life();
        final Leases leases = new Leases();
        final Damages damages = new Damages();
        int certifiedUntil;
        boolean dirty = false;
        int booking = NONE;
        int goneDay = NONE;
        int gonePort = NONE;

        Box(int kind, int lessor, int until) {
            this.kind = kind;
            this.lessor = lessor;
            this.certifiedUntil = until;
        }

        boolean isGone() {
            return goneDay != NONE;
        }
    }

    /** The reports of a box by days, and where it is behind each of them. */
    private static final class Life {
        final int[] reportDays = new int[MOST_REPORTS];
        final int[] events = new int[MOST_REPORTS];
        final int[] ports = new int[MOST_REPORTS];
        final int[] placesBehind = new int[MOST_REPORTS];
        int told = 0;
        int doubtful = 0;

        boolean isFull() {
            return told >= MOST_REPORTS;
        }

        boolean knows(int day, int event, int port) {
            for (int i = 0; i < told; i++) {
                if (reportDays[i] == day && events[i] == event && ports[i] == port) {
                    return true;
                }
            }
            return false;
        }

        void tell(int day, int event, int port) {
            if (isFull()) {
                return;
            }
            int at = told;
            // Only greater days move up: reports of one day stay as they were told.
            while (at > 0 && reportDays[at - 1] > day) {
                reportDays[at] = reportDays[at - 1];
                events[at] = events[at - 1];
                ports[at] = ports[at - 1];
                at--;
            }
            reportDays[at] = day;
            events[at] = event;
            ports[at] = port;
            told++;
            liveAgain();
        }

        /** A late report can make others fit, or doubtful, so the whole life is gone through anew. */
        private void liveAgain() {
            int place = NOWHERE;
            doubtful = 0;
            for (int i = 0; i < told; i++) {
                if (fits(place, events[i], ports[i])) {
                    place = placeAfter(events[i], ports[i]);
                } else {
                    doubtful++;
                }
                placesBehind[i] = place;
            }
        }

        private static boolean fits(int place, int event, int port) {
            switch (event) {
                case IN:
                    return place == NOWHERE || place == ROAD;
                case LAND:
                    return place == NOWHERE || place == SHIP;
                default:
                    return place == port;
            }
        }

        private static int placeAfter(int event, int port) {
            switch (event) {
                case OUT:
                    return ROAD;
                case LOAD:
                    return SHIP;
                default:
                    return port;
            }
        }

        int placeOn(int day) {
            int place = NOWHERE;
            for (int i = 0; i < told && reportDays[i] <= day; i++) {
                place = placesBehind[i];
            }
            return place;
        }

        int daysAt(int place, int from, int to) {
            int counted = 0;
            int next = 0;
            int here = NOWHERE;
            for (int day = from; day <= to; day++) {
                while (next < told && reportDays[next] <= day) {
                    here = placesBehind[next];
                    next++;
                }
                if (here == place) {
                    counted++;
                }
            }
            return counted;
        }
    }

    /** The leases of a box as they were told. */
    private static final class Leases {
        final int[] firstDays = new int[MOST_LEASES];
        final int[] lastDays = new int[MOST_LEASES];
        int told = 0;

        boolean isFull() {
            return told >= MOST_LEASES;
        }

        void tell(int from, int to) {
            if (isFull()) {
                return;
            }
            firstDays[told] = from;
            lastDays[told] = to;
            told++;
        }

        /** The last one told that has begun decides alone, for it is in place of those before even behind its end. */
        boolean holdOn(int day) {
            for (int i = told - 1; i >= 0; i--) {
                if (firstDays[i] <= day) {
                    return day <= lastDays[i];
                }
            }
            return false;
        }

        void endOn(int day) {
            for (int i = 0; i < told; i++) {
                lastDays[i] = Math.min(lastDays[i], day);
            }
        }
    }

    /** The damages of a box, wear with them, for the standard may change. */
    private static final class Damages {
        final int[] codes = new int[MOST_DAMAGES];
        final int[] sizes = new int[MOST_DAMAGES];
        int told = 0;

        boolean isFull() {
            return told >= MOST_DAMAGES;
        }

        void tell(int code, int size) {
            if (isFull()) {
                return;
            }
            codes[told] = code;
            sizes[told] = size;
            told++;
        }

        void clear() {
            told = 0;
        }

        /** It is 0 only if no damage counts, since no size and no code's share is 0. */
        int mendCost(int[] standards) {
            int cost = 0;
            for (int i = 0; i < told; i++) {
                int code = codes[i];
                if (code >= 0 && code < standards.length && sizes[i] > standards[code]) {
                    cost += sizes[i] * (code + 1) * 10;
                }
            }
            return cost;
        }
    }

    /** A booking, and how many boxes it has been given. */
    private static final class Booking {
        final int port;
        final int kind;
        final int wanted;
        int given = 0;
        boolean over = false;

        Booking(int port, int kind, int wanted) {
            this.port = port;
            this.kind = kind;
            this.wanted = wanted;
        }

        int lacking() {
            return over ? 0 : wanted - given;
        }
    }

    /** The plan of bringing boxes of one kind; its rows are used again for each plan. */
    private static final class Plan {
        final int[] unitPorts = new int[MOST_UNITS];
        final int[] overBoxes = new int[MOST_BOXES];
        final int[] overPorts = new int[MOST_BOXES];
        final boolean[] taken = new boolean[MOST_BOXES];
        final int[] tryBoxes = new int[MOST_UNITS];
        final int[] bestBoxes = new int[MOST_UNITS];
        /** What the units from one on cost at the least, whichever boxes the others have. */
        final int[] leastFrom = new int[MOST_UNITS + 1];
        int portsLacking = 0;
        int units = 0;
        int over = 0;
        int leastCost = 0;

        void clear() {
            portsLacking = 0;
            units = 0;
            over = 0;
            leastCost = 0;
        }

        void lack(int port, int lacking) {
            if (!isPort(port) || lacking <= 0) {
                return;
            }
            portsLacking |= 1 << port;
            for (int i = units; i < units + lacking && i < unitPorts.length; i++) {
                unitPorts[i] = port;
            }
            units += lacking;
        }

        void offer(int box, int port) {
            if (!isPort(port) || (portsLacking & (1 << port)) != 0 || over >= overBoxes.length) {
                return;
            }
            overBoxes[over] = box;
            overPorts[over] = port;
            taken[over] = false;
            over++;
        }

        void work(int[][] costs) {
            if (units > unitPorts.length) {
                return;
            }
            findLeastFrom(costs);
            leastCost = DEARER_THAN_ANY_PLAN;
            // Each box can be brought to each unit, so just the units beyond the boxes go without.
            tryUnit(this, costs, 0, 0, Math.max(0, units - over));
        }

        int boxOf(int unit) {
            return unit >= 0 && unit < units && unit < bestBoxes.length ? bestBoxes[unit] : NONE;
        }

        private void findLeastFrom(int[][] costs) {
            leastFrom[units] = 0;
            for (int unit = units - 1; unit >= 0; unit--) {
                // If a unit must go without, it may be any one of them, and then costs nothing.
                int least = over < units ? 0 : cheapest(costs, unitPorts[unit]);
                leastFrom[unit] = leastFrom[unit + 1] + least;
            }
        }

        private int cheapest(int[][] costs, int to) {
            int least = MOST_MONEY;
            for (int i = 0; i < over; i++) {
                least = Math.min(least, costs[overPorts[i]][to]);
            }
            return least;
        }

        /**
         * Units have their boxes in rising order, and none last, so of several least plans the one wanted is
         * found first; only one that costs less is put in its place.
         */
        private static void tryUnit(Plan plan, int[][] costs, int unit, int spent, int without) {
            if (unit > plan.units || unit > MOST_UNITS || spent + plan.leastFrom[unit] >= plan.leastCost) {
                return;
            }
            if (unit == plan.units) {
                plan.leastCost = spent;
                System.arraycopy(plan.tryBoxes, 0, plan.bestBoxes, 0, unit);
                return;
            }
            int portsTried = 0;
            for (int i = 0; i < plan.over; i++) {
                int port = plan.overPorts[i];
                int portBit = 1 << port;
                // Boxes at one port cost the same, so the lowest one left there stands for all.
                if (!plan.taken[i] && (portsTried & portBit) == 0) {
                    portsTried |= portBit;
                    plan.taken[i] = true;
                    plan.tryBoxes[unit] = plan.overBoxes[i];
                    tryUnit(plan, costs, unit + 1, spent + costs[port][plan.unitPorts[unit]], without);
                    plan.taken[i] = false;
                }
            }
            if (without > 0) {
                plan.tryBoxes[unit] = NONE;
                tryUnit(plan, costs, unit + 1, spent, without - 1);
            }
        }
    }
}
