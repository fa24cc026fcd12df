/** A motorway run lane by lane. What each call answers is told in ../shared/DOC.md. */
public final class RedcrossGantry {
    public static final int NONE = -1;
    public static final int OPEN = 0, LEAVE = 1, CROSS = 2;
    public static final int CLEAR = 0, WIND = 1, FOG = 2, ICE = 3;
    public static final int GOOD = 0, STUCK = 1, DEAD = 2;
    public static final int SUSPECTED = 0, CONFIRMED = 1, CLEARED = 2;

    private static final int SECTIONS = 12;
    private static final int LANES = 4;
    // A place is one lane at one section; its number is section * LANES + lane,
    // so that the same lane at the next section is LANES farther on.
    private static final int PLACES = 48;
    private static final int SHOULDER = 0;
    private static final int LANE_ROOM = 20;
    private static final int LAST_MINUTE = 600;
    private static final int TOP_SPEED = 120;
    private static final int SPEED_STEP = 20;
    // So far ahead of the minute 0 that nothing counts as recent.
    private static final int LONG_AGO = -1000;

    private int minute = 0;
    private final Traffic traffic = new Traffic();
    private final Detectors detectors = new Detectors();
    private final SpeedSigns speedSigns = new SpeedSigns();
    private final LaneSigns laneSigns = new LaneSigns();
    private final Shoulder shoulder = new Shoulder();
    private final Incidents incidents = new Incidents();
    private final Patrols patrols = new Patrols();
    private final Bookings bookings = new Bookings();
    private final Proofs proofs = new Proofs();

    public RedcrossGantry() {
        laneSigns.setAnew(minute, shoulder, incidents, bookings);
        proofs.keep(minute, speedSigns.shown, laneSigns.shown);
    }

    // ---- traffic, minutes

    public int demand(int vehicles) throws IllegalArgumentException {
        needArgument(isWithin(vehicles, 0, 40));
        int before = traffic.demand;
        traffic.demand = vehicles;
        return before;
    }

    public int pass(int minutes) throws IllegalArgumentException, IllegalStateException {
        needArgument(isWithin(minutes, 1, 60));
        needState(minute + minutes <= LAST_MINUTE);
        for (int i = 0; i < minutes; i++) {
            comeToNextMinute();
        }
        return minute;
    }

    public int holds(int section, int lane) throws IndexOutOfBoundsException {
        needPlace(section, lane);
        return traffic.held[placeOf(section, lane)];
    }

    public int vehicles(int what) throws IllegalArgumentException {
        needArgument(isWithin(what, 0, 3));
        switch (what) {
            case 0: return traffic.came;
            case 1: return traffic.countOnRoad();
            case 2: return traffic.waiting;
            default: return traffic.gone;
        }
    }

    public int section(int section, int what) throws IndexOutOfBoundsException, IllegalArgumentException {
        needSection(section);
        needArgument(isWithin(what, 0, 5));
        switch (what) {
            case 0: return traffic.speedAt(section);
            case 1: return detectors.beliefAt(section, traffic);
            case 2: return detectors.guessAt(section, traffic);
            case 3: return speedSigns.shown[section];
            case 4: return traffic.broken[section] ? 1 : 0;
            default: return detectors.is[section];
        }
    }

    // ---- detectors, weather, speed signs

    public int detector(int section, int is, int number) throws IndexOutOfBoundsException, IllegalArgumentException {
        needSection(section);
        needArgument(isWithin(is, GOOD, DEAD));
        needArgument(is != STUCK || isWithin(number, 0, TOP_SPEED));
        int before = detectors.is[section];
        detectors.is[section] = is;
        detectors.stuckAt[section] = number;
        return before;
    }

    public int weather(int weather) throws IllegalArgumentException {
        needArgument(isWithin(weather, CLEAR, ICE));
        int before = speedSigns.weather;
        speedSigns.weather = weather;
        return before;
    }

    public int limit(int section, int limit) throws IndexOutOfBoundsException, IllegalArgumentException {
        needSection(section);
        needArgument(limit == NONE || isSpeedSign(limit));
        int before = speedSigns.limits[section];
        speedSigns.limits[section] = limit;
        return before;
    }

    // ---- lane signs

    public int order(int section, int lane, int sign)
            throws IndexOutOfBoundsException, IllegalArgumentException, IllegalStateException {
        needPlace(section, lane);
        needArgument(sign == NONE || isWithin(sign, OPEN, CROSS));
        needState(sign != CROSS || section != 0);
        int place = placeOf(section, lane);
        int before = laneSigns.orders[place];
        laneSigns.orders[place] = sign;
        return before;
    }

    public int sign(int section, int lane) throws IndexOutOfBoundsException {
        needPlace(section, lane);
        setLaneSigns();
        return laneSigns.shown[placeOf(section, lane)];
    }

    public boolean isLawful() {
        setLaneSigns();
        return speedSigns.areLawful() && laneSigns.areLawful();
    }

    // ---- shoulder

    public boolean look(int section) throws IndexOutOfBoundsException {
        needSection(section);
        boolean clear = traffic.isClear(placeOf(section, SHOULDER));
        shoulder.foundClearAt[section] = clear ? minute : LONG_AGO;
        return clear;
    }

    public int openShoulder(int from, int to)
            throws IndexOutOfBoundsException, IllegalArgumentException, IllegalStateException {
        needSection(from);
        needSection(to);
        needArgument(from <= to);
        needState(shoulder.canOpen(from, to, minute));
        return shoulder.openAll(from, to);
    }

    public int shutShoulder() {
        return shoulder.shutAll();
    }

    // ---- incidents, patrols

    public void stop(int section, int lane) throws IndexOutOfBoundsException, IllegalStateException {
        needPlace(section, lane);
        int place = placeOf(section, lane);
        needState(!traffic.stopped[place]);
        traffic.stopped[place] = true;
        if (lane == SHOULDER) {
            shoulder.foundClearAt[section] = LONG_AGO;
            shoulder.shutAll();
        }
    }

    public int report(int section, int lane) throws IndexOutOfBoundsException, IllegalStateException {
        needPlace(section, lane);
        int place = placeOf(section, lane);
        needState(section != 0 || lane == SHOULDER);
        needState(incidents.canAdd(place));
        return incidents.add(place);
    }

    public int confirm(int incident) throws IndexOutOfBoundsException, IllegalStateException {
        needIndex(incidents.has(incident));
        needState(incidents.how[incident] == SUSPECTED);
        boolean isThere = traffic.isStoppedAt(incidents.places[incident]);
        incidents.how[incident] = isThere ? CONFIRMED : CLEARED;
        return incidents.how[incident];
    }

    public int incident(int incident, int what) throws IndexOutOfBoundsException, IllegalArgumentException {
        needIndex(incidents.has(incident));
        needArgument(isWithin(what, 0, 3));
        switch (what) {
            case 0: return incidents.sectionOf(incident);
            case 1: return incidents.places[incident] % LANES;
            case 2: return incidents.how[incident];
            default: return incidents.patrols[incident];
        }
    }

    public int pattern() {
        for (int section = 0; section < SECTIONS - 1; section++) {
            int here = detectors.beliefAt(section, traffic);
            if (here != NONE && here < 40 && detectors.beliefAt(section + 1, traffic) >= 80) {
                return section;
            }
        }
        return NONE;
    }

    public int way(int patrol, int section) throws IndexOutOfBoundsException {
        needPatrol(patrol);
        needSection(section);
        return wayBetween(patrols.sections[patrol], section);
    }

    public int send(int patrol, int incident) throws IndexOutOfBoundsException, IllegalStateException {
        needPatrol(patrol);
        needIndex(incidents.has(incident));
        needState(patrols.incidents[patrol] == NONE);
        needState(incidents.how[incident] == CONFIRMED);
        needState(incidents.patrols[incident] == NONE);
        int way = wayBetween(patrols.sections[patrol], incidents.sectionOf(incident));
        incidents.patrols[incident] = patrol;
        patrols.incidents[patrol] = incident;
        patrols.minutesLeft[patrol] = way + Patrols.WORK;
        return patrols.minutesLeft[patrol];
    }

    public int patrol(int patrol, int what) throws IndexOutOfBoundsException, IllegalArgumentException {
        needPatrol(patrol);
        needArgument(isWithin(what, 0, 2));
        switch (what) {
            case 0: return patrols.sections[patrol];
            case 1: return patrols.incidents[patrol];
            default: return patrols.minutesLeft[patrol];
        }
    }

    // ---- works, proofs

    public int works(int lane, int from, int to, int begin, int end)
            throws IndexOutOfBoundsException, IllegalArgumentException, IllegalStateException {
        needIndex(isWithin(lane, 1, LANES - 1));
        needIndex(isWithin(from, 1, SECTIONS - 1));
        needIndex(isWithin(to, 1, SECTIONS - 1));
        needArgument(from <= to);
        needArgument(isWithin(begin, minute, LAST_MINUTE - 1));
        needArgument(end > begin && end <= LAST_MINUTE);
        needState(bookings.count < Bookings.MOST);
        bookings.writeNext(lane, from, to, begin, end);
        needState(!bookings.nextTakesLastLane());
        bookings.count++;
        return bookings.count - 1;
    }

    public boolean isOn(int works) throws IndexOutOfBoundsException {
        needIndex(isWithin(works, 0, bookings.count - 1));
        return bookings.isRunning(works, minute);
    }

    public int proof(int minute, int section, int what)
            throws IndexOutOfBoundsException, IllegalArgumentException, IllegalStateException {
        needSection(section);
        needArgument(minute >= 0);
        needArgument(isWithin(what, 0, LANES));
        needState(Proofs.isKept(minute, this.minute));
        if (what == 0) {
            return proofs.speedSign(minute, section);
        }
        return proofs.laneSign(minute, section, what - 1);
    }

    public boolean isFined(int minute, int section, int speed)
            throws IndexOutOfBoundsException, IllegalArgumentException, IllegalStateException {
        needSection(section);
        needArgument(minute >= 0);
        needArgument(isWithin(speed, 0, 250));
        needState(Proofs.isKept(minute, this.minute));
        return speed - proofs.speedSign(minute, section) >= 10;
    }

    // ---- what several calls use

    private static boolean isWithin(int number, int least, int most) {
        return number >= least && number <= most;
    }

    private static boolean isSpeedSign(int number) {
        return isWithin(number, 40, TOP_SPEED) && number % SPEED_STEP == 0;
    }

    private static int placeOf(int section, int lane) {
        return section * LANES + lane;
    }

    private static void needIndex(boolean holds) {
        if (!holds) {
            throw new IndexOutOfBoundsException("there is none of that number");
        }
    }

    private static void needArgument(boolean holds) {
        if (!holds) {
            throw new IllegalArgumentException("an argument is out of its range");
        }
    }

    private static void needState(boolean holds) {
        if (!holds) {
            throw new IllegalStateException("that cannot be by now");
        }
    }

    private static void needSection(int section) {
        needIndex(isWithin(section, 0, SECTIONS - 1));
    }

    private static void needPlace(int section, int lane) {
        needSection(section);
        needIndex(isWithin(lane, 0, LANES - 1));
    }

    private static void needPatrol(int patrol) {
        needIndex(isWithin(patrol, 0, Patrols.NUMBER - 1));
    }

    private void comeToNextMinute() {
        minute++;
        movePatrols();
        setLaneSigns();
        traffic.goOn(laneSigns.shown);
        traffic.arrive(laneSigns.shown);
        traffic.judgeBroken();
        speedSigns.setAnew(minute, detectors, traffic);
        proofs.keep(minute, speedSigns.shown, laneSigns.shown);
    }

    private void setLaneSigns() {
        laneSigns.setAnew(minute, shoulder, incidents, bookings);
    }

    private void movePatrols() {
        for (int patrol = 0; patrol < Patrols.NUMBER; patrol++) {
            if (patrols.incidents[patrol] != NONE) {
                patrols.minutesLeft[patrol]--;
                if (patrols.minutesLeft[patrol] <= 0) {
                    endWorkOf(patrol);
                }
            }
        }
    }

    private void endWorkOf(int patrol) {
        int incident = patrols.incidents[patrol];
        if (incidents.has(incident)) {
            traffic.clearStopped(incidents.places[incident]);
            incidents.how[incident] = CLEARED;
            incidents.patrols[incident] = NONE;
            patrols.sections[patrol] = incidents.sectionOf(incident);
        }
        patrols.incidents[patrol] = NONE;
    }

    private int wayBetween(int from, int to) {
        if (to <= from) {
            return 3 * (from - to);
        }
        int minutes = 0;
        for (int section = from + 1; section <= to; section++) {
            minutes += minutesThrough(section);
        }
        return minutes;
    }

    private int minutesThrough(int section) {
        return shoulder.isOpenAt(section) ? 1 + traffic.mostIn(section) / 5 : 1;
    }

    /** The vehicles: those that are held, stopped, waiting and gone, and where they break down the flow. */
    private static final class Traffic {
        // The changes of lane that a vehicle tries, in their order.
        private static final int[] TRIES_IF_OPEN = {0, -1, 1};
        private static final int[] TRIES_IF_NOT_OPEN = {-1, 1, 0};

        final int[] held = new int[PLACES];
        final boolean[] stopped = new boolean[PLACES];
        final boolean[] broken = new boolean[SECTIONS];
        int demand = 0;
        int came = 0;
        int waiting = 0;
        int gone = 0;

        int mostIn(int section) {
            if (section < 0 || section >= SECTIONS) {
                return 0;
            }
            int most = 0;
            for (int lane = 0; lane < LANES; lane++) {
                int here = held[section * LANES + lane];
                most = here > most ? here : most;
            }
            return most;
        }

        int speedAt(int section) {
            return TOP_SPEED - 5 * mostIn(section);
        }

        int countOnRoad() {
            int sum = 0;
            for (int place = 0; place < PLACES; place++) {
                sum += held[place];
            }
            return sum;
        }

        boolean isStoppedAt(int place) {
            return isWithin(place, 0, PLACES - 1) && stopped[place];
        }

        boolean isClear(int place) {
            return !isStoppedAt(place) && heldAt(place) == 0;
        }

        void clearStopped(int place) {
            if (isWithin(place, 0, PLACES - 1)) {
                stopped[place] = false;
            }
        }

        // The sections at the end go first: nobody goes on by two sections in one minute.
        void goOn(int[] signs) {
            for (int section = SECTIONS - 1; section >= 0; section--) {
                for (int lane = 0; lane < LANES; lane++) {
                    goOnFrom(section, lane, signs);
                }
            }
        }

        void arrive(int[] signs) {
            came += demand;
            waiting += demand;
            for (int i = 0; i < LANES * LANE_ROOM && waiting > 0; i++) {
                int lane = laneToEnter(signs);
                if (lane == NONE) {
                    return;
                }
                held[lane]++;
                waiting--;
            }
        }

        void judgeBroken() {
            for (int section = 0; section < SECTIONS; section++) {
                int most = mostIn(section);
                broken[section] = most >= 15 || (broken[section] && most >= 8);
            }
        }

        private void goOnFrom(int section, int lane, int[] signs) {
            int place = placeOf(section, lane);
            int mayGo = Math.min(heldAt(place), mostThatGoOn(section, place));
            for (int i = 0; i < mayGo; i++) {
                if (section == SECTIONS - 1) {
                    gone++;
                } else {
                    int next = placeToGoTo(section, lane, signs);
                    if (next == NONE) {
                        return;
                    }
                    held[next]++;
                }
                held[place]--;
            }
        }

        private int mostThatGoOn(int section, int place) {
            if (isStoppedAt(place)) {
                return 0;
            }
            return broken[section] ? 6 : 8;
        }

        private int placeToGoTo(int section, int lane, int[] signs) {
            int[] tries = signs[placeOf(section, lane)] == OPEN ? TRIES_IF_OPEN : TRIES_IF_NOT_OPEN;
            for (int i = 0; i < tries.length; i++) {
                int to = lane + tries[i];
                if (isWithin(to, 0, LANES - 1) && letsIn(placeOf(section + 1, to), signs)) {
                    return placeOf(section + 1, to);
                }
            }
            return NONE;
        }

        // At the section 0 a lane's number is its place's too.
        private int laneToEnter(int[] signs) {
            int best = NONE;
            for (int lane = 0; lane < LANES; lane++) {
                if (letsIn(lane, signs) && (best == NONE || held[lane] < held[best])) {
                    best = lane;
                }
            }
            return best;
        }

        private boolean letsIn(int place, int[] signs) {
            return isWithin(place, 0, PLACES - 1) && signs[place] != CROSS && held[place] < LANE_ROOM;
        }

        private int heldAt(int place) {
            return isWithin(place, 0, PLACES - 1) ? held[place] : 0;
        }
    }

    /** What the detectors are, and what is believed by them. */
    private static final class Detectors {
        final int[] is = new int[SECTIONS];
        final int[] stuckAt = new int[SECTIONS];

        int guessAt(int section, Traffic traffic) {
            int sum = 0;
            int good = 0;
            for (int near = 0; near < SECTIONS; near++) {
                if ((near == section - 1 || near == section + 1) && is[near] == GOOD) {
                    sum += traffic.speedAt(near);
                    good++;
                }
            }
            return good == 0 ? NONE : sum / good;
        }

        int beliefAt(int section, Traffic traffic) {
            if (!isWithin(section, 0, SECTIONS - 1)) {
                return NONE;
            }
            if (is[section] == GOOD) {
                return traffic.speedAt(section);
            }
            int guess = guessAt(section, traffic);
            if (is[section] == DEAD) {
                return guess;
            }
            int number = stuckAt[section];
            return guess != NONE && Math.abs(guess - number) > 30 ? guess : number;
        }
    }

    /** The speed signs, with the limits ordered by hand and the weather, which they go by. */
    private static final class SpeedSigns {
        // By weather, CLEAR to ICE.
        private static final int[] WEATHER_LETS = {120, 80, 60, 40};

        final int[] limits = new int[SECTIONS];
        final int[] shown = new int[SECTIONS];
        final int[] loweredAt = new int[SECTIONS];
        int weather = CLEAR;

        SpeedSigns() {
            for (int section = 0; section < SECTIONS; section++) {
                limits[section] = NONE;
                shown[section] = TOP_SPEED;
                loweredAt[section] = LONG_AGO;
            }
        }

        void setAnew(int minute, Detectors detectors, Traffic traffic) {
            for (int section = SECTIONS - 1; section >= 0; section--) {
                int want = wantAt(section, detectors.beliefAt(section, traffic));
                int sign = staysBelow(want, section, minute) ? shown[section] : want;
                if (section + 1 < SECTIONS) {
                    sign = Math.min(sign, shown[section + 1] + SPEED_STEP);
                }
                if (sign < shown[section]) {
                    loweredAt[section] = minute;
                }
                shown[section] = sign;
            }
        }

        boolean areLawful() {
            for (int section = 0; section + 1 < SECTIONS; section++) {
                if (shown[section] > shown[section + 1] + SPEED_STEP) {
                    return false;
                }
            }
            return true;
        }

        private int wantAt(int section, int belief) {
            if (limits[section] != NONE) {
                return limits[section];
            }
            int lets = isWithin(weather, CLEAR, ICE) ? WEATHER_LETS[weather] : TOP_SPEED;
            return Math.min(wantBy(belief), lets);
        }

        private static int wantBy(int belief) {
            if (belief == NONE) {
                return 60;
            }
            if (belief < 40) {
                return 40;
            }
            if (belief < 60) {
                return 60;
            }
            return belief < 80 ? 80 : TOP_SPEED;
        }

        private boolean staysBelow(int want, int section, int minute) {
            return limits[section] == NONE && want > shown[section] && minute - loweredAt[section] < 3;
        }
    }

    /** The lane signs and the orders by hand. */
    private static final class LaneSigns {
        final int[] orders = new int[PLACES];
        final int[] told = new int[PLACES];
        final int[] shown = new int[PLACES];

        LaneSigns() {
            for (int place = 0; place < PLACES; place++) {
                orders[place] = NONE;
            }
        }

        // What counts least is told first, so that what counts more is told over it.
        void setAnew(int minute, Shoulder shoulder, Incidents incidents, Bookings bookings) {
            for (int place = 0; place < PLACES; place++) {
                told[place] = OPEN;
            }
            shoulder.tellCrosses(told);
            incidents.tellCrosses(told);
            bookings.tellCrosses(told, minute);
            for (int place = 0; place < PLACES; place++) {
                if (orders[place] != NONE) {
                    told[place] = orders[place];
                }
            }
            for (int place = 0; place < PLACES; place++) {
                shown[place] = told[place] == OPEN && isAheadOfCross(place, told) ? LEAVE : told[place];
            }
        }

        boolean areLawful() {
            for (int place = 0; place < PLACES; place++) {
                if (shown[place] == OPEN && isAheadOfCross(place, shown)) {
                    return false;
                }
            }
            return true;
        }

        private static boolean isAheadOfCross(int place, int[] signs) {
            int next = place + LANES;
            return isWithin(next, 0, PLACES - 1) && signs[next] == CROSS;
        }
    }

    /** Where the shoulder is open, and when it was found clear. */
    private static final class Shoulder {
        private static final int LOOK_HOLDS = 5;

        final boolean[] open = new boolean[SECTIONS];
        // The minute of the latest look; LONG_AGO if it found it not clear, or one has been stopped since.
        final int[] foundClearAt = new int[SECTIONS];

        Shoulder() {
            for (int section = 0; section < SECTIONS; section++) {
                foundClearAt[section] = LONG_AGO;
            }
        }

        boolean isOpenAt(int section) {
            return isWithin(section, 0, SECTIONS - 1) && open[section];
        }

        boolean canOpen(int from, int to, int minute) {
            for (int section = 0; section < SECTIONS; section++) {
                if (isWithin(section, from, to) && minute - foundClearAt[section] >= LOOK_HOLDS) {
                    return false;
                }
            }
            return true;
        }

        int openAll(int from, int to) {
            int changed = 0;
            for (int section = 0; section < SECTIONS; section++) {
                if (isWithin(section, from, to) && !open[section]) {
                    open[section] = true;
                    changed++;
                }
            }
            return changed;
        }

        int shutAll() {
            int changed = 0;
            for (int section = 0; section < SECTIONS; section++) {
                if (open[section]) {
                    open[section] = false;
                    changed++;
                }
            }
            return changed;
        }

        void tellCrosses(int[] told) {
            for (int section = 0; section < SECTIONS; section++) {
                if (!open[section]) {
                    told[placeOf(section, SHOULDER)] = CROSS;
                }
            }
        }
    }

    /** The incidents by their numbers. */
    private static final class Incidents {
        private static final int MOST = 12;

        final int[] places = new int[MOST];
        final int[] how = new int[MOST];
        // The patrol that is sent to each, NONE without one.
        final int[] patrols = new int[MOST];
        int count = 0;

        boolean has(int incident) {
            return isWithin(incident, 0, MOST - 1) && incident < count;
        }

        int sectionOf(int incident) {
            return has(incident) ? places[incident] / LANES : 0;
        }

        boolean canAdd(int place) {
            for (int i = 0; i < MOST; i++) {
                if (i < count && places[i] == place && how[i] != CLEARED) {
                    return false;
                }
            }
            return count < MOST;
        }

        int add(int place) {
            if (!isWithin(count, 0, MOST - 1)) {
                return NONE;
            }
            places[count] = place;
            how[count] = SUSPECTED;
            patrols[count] = NONE;
            count++;
            return count - 1;
        }

        void tellCrosses(int[] told) {
            for (int i = 0; i < MOST; i++) {
                if (i < count && how[i] == CONFIRMED && isWithin(places[i], 0, PLACES - 1)) {
                    told[places[i]] = CROSS;
                }
            }
        }
    }

    /** The patrols by their numbers. */
    private static final class Patrols {
        private static final int NUMBER = 3;
        private static final int WORK = 5;

        final int[] sections = new int[NUMBER];
        // The incident to which each is sent, NONE if it is free.
        final int[] incidents = {NONE, NONE, NONE};
        final int[] minutesLeft = new int[NUMBER];
    }

    /** The works by their numbers. */
    private static final class Bookings {
        private static final int MOST = 8;

        final int[] lanes = new int[MOST];
        final int[] froms = new int[MOST];
        final int[] tos = new int[MOST];
        final int[] begins = new int[MOST];
        final int[] ends = new int[MOST];
        int count = 0;

        boolean isRunning(int works, int minute) {
            return isWithin(works, 0, MOST - 1) && begins[works] <= minute && minute < ends[works];
        }

        // Written behind those that are booked, it counts for nothing until the count goes up.
        void writeNext(int lane, int from, int to, int begin, int end) {
            if (isWithin(count, 0, MOST - 1)) {
                lanes[count] = lane;
                froms[count] = from;
                tos[count] = to;
                begins[count] = begin;
                ends[count] = end;
            }
        }

        // Works are spans of sections and of minutes: three of them meet
        // somewhere if all their spans of both kinds have a part in common.
        boolean nextTakesLastLane() {
            if (!isWithin(count, 0, MOST - 1)) {
                return false;
            }
            for (int a = 0; a < count; a++) {
                for (int b = 0; b < a; b++) {
                    if (areInThreeLanes(a, b, count) && doMeet(a, b, count)) {
                        return true;
                    }
                }
            }
            return false;
        }

        void tellCrosses(int[] told, int minute) {
            for (int works = 0; works < MOST; works++) {
                if (works < count && isRunning(works, minute)) {
                    tellCrossesOf(works, told);
                }
            }
        }

        private void tellCrossesOf(int works, int[] told) {
            for (int section = 0; section < SECTIONS; section++) {
                int place = placeOf(section, lanes[works]);
                if (isWithin(section, froms[works], tos[works]) && isWithin(place, 0, PLACES - 1)) {
                    told[place] = CROSS;
                }
            }
        }

        private boolean areInThreeLanes(int a, int b, int c) {
            return lanes[a] != lanes[b] && lanes[a] != lanes[c] && lanes[b] != lanes[c];
        }

        private boolean doMeet(int a, int b, int c) {
            int from = Math.max(froms[a], Math.max(froms[b], froms[c]));
            int to = Math.min(tos[a], Math.min(tos[b], tos[c]));
            int begin = Math.max(begins[a], Math.max(begins[b], begins[c]));
            int end = Math.min(ends[a], Math.min(ends[b], ends[c]));
            return from <= to && begin < end;
        }
    }

    /** What was shown in the latest minutes. */
    private static final class Proofs {
        private static final int MINUTES = 60;

        // One number for each minute and section: the speed sign, then two bits for each lane sign.
        final int[] kept = new int[MINUTES * SECTIONS];

        static boolean isKept(int minute, int now) {
            return isWithin(minute, now - MINUTES + 1, now);
        }

        void keep(int minute, int[] speeds, int[] lanes) {
            for (int section = 0; section < SECTIONS; section++) {
                int signs = speeds[section];
                for (int lane = LANES - 1; lane >= 0; lane--) {
                    signs = signs * 4 + lanes[placeOf(section, lane)];
                }
                kept[slotOf(minute, section)] = signs;
            }
        }

        int speedSign(int minute, int section) {
            return kept[slotOf(minute, section)] >> (2 * LANES);
        }

        int laneSign(int minute, int section, int lane) {
            return (kept[slotOf(minute, section)] >> (2 * lane)) & 3;
        }

        // The minute that is kept no more gives its slots to the new one.
        private static int slotOf(int minute, int section) {
            return Math.floorMod(minute, MINUTES) * SECTIONS + section;
        }
    }
}
