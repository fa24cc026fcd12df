import java.util.ArrayList;
import java.util.List;

/**
 * The document read once more, in another way and with no eye to cost: logs and
 * whole histories where the program keeps a number. RandomRunsTest sets the two side by side.
 */
final class Oracle {
    private static final int[] WEATHERS = {120, 80, 60, 40};

    private record Event(int order, int minute, boolean clear) { }

    private static final class Incident {
        int section;
        int lane;
        int how;
        int sent = -1;
    }

    private static final class Patrol {
        int section;
        Incident to;
        int doneAt;
    }

    private record Works(int lane, int from, int to, int begin, int end) {
        boolean covers(int l, int s, int m) {
            return l == lane && s >= from && s <= to && m >= begin && m < end;
        }
    }

    private int now = 0;
    private int asked = 0;
    private int demand = 0;
    private int came = 0;
    private int waiting = 0;
    private int gone = 0;
    private int weather = 0;
    private final int[][] hold = new int[12][4];
    private final boolean[][] stopped = new boolean[12][4];
    private final Integer[][] order = new Integer[12][4];
    private final Integer[] limit = new Integer[12];
    private final int[] detector = new int[12];
    private final int[] stuck = new int[12];
    private final boolean[] broken = new boolean[12];
    private final boolean[] shut = new boolean[12];
    private final List<List<Event>> looks = new ArrayList<>();
    private final List<List<Event>> shoulderStops = new ArrayList<>();
    private final int[][] speedAt = new int[601][12];
    private final int[][][] laneAt = new int[601][12][4];
    private final List<Incident> incidents = new ArrayList<>();
    private final Patrol[] patrols = {new Patrol(), new Patrol(), new Patrol()};
    private final List<Works> works = new ArrayList<>();

    Oracle() {
        for (int s = 0; s < 12; s++) {
            shut[s] = true;
            looks.add(new ArrayList<>());
            shoulderStops.add(new ArrayList<>());
            speedAt[0][s] = 120;
        }
        keepLanes();
    }

    private static void index(boolean fine) {
        if (!fine) {
            throw new IndexOutOfBoundsException();
        }
    }

    private static void argument(boolean fine) {
        if (!fine) {
            throw new IllegalArgumentException();
        }
    }

    private static void state(boolean fine) {
        if (!fine) {
            throw new IllegalStateException();
        }
    }

    private static void section(int s) {
        index(s >= 0 && s <= 11);
    }

    private static void lane(int l) {
        index(l >= 0 && l <= 3);
    }

    private Incident incidentOf(int n) {
        index(n >= 0 && n < incidents.size());
        return incidents.get(n);
    }

    private Patrol patrolOf(int n) {
        index(n >= 0 && n <= 2);
        return patrols[n];
    }

    private int told(int s, int l) {
        if (order[s][l] != null) {
            return order[s][l];
        }
        for (Works w : works) {
            if (w.covers(l, s, now)) {
                return 2;
            }
        }
        for (Incident i : incidents) {
            if (i.section == s && i.lane == l && i.how == 1) {
                return 2;
            }
        }
        return l == 0 && shut[s] ? 2 : 0;
    }

    private int laneSign(int s, int l) {
        int told = told(s, l);
        boolean crossNext = s < 11 && told(s + 1, l) == 2;
        return told == 0 && crossNext ? 1 : told;
    }

    private void keepLanes() {
        for (int s = 0; s < 12; s++) {
            for (int l = 0; l < 4; l++) {
                laneAt[now][s][l] = laneSign(s, l);
            }
        }
    }

    private int most(int s) {
        return Math.max(Math.max(hold[s][0], hold[s][1]), Math.max(hold[s][2], hold[s][3]));
    }

    private int speed(int s) {
        return 120 - 5 * most(s);
    }

    private int guess(int s) {
        List<Integer> of = new ArrayList<>();
        if (s > 0 && detector[s - 1] == 0) {
            of.add(speed(s - 1));
        }
        if (s < 11 && detector[s + 1] == 0) {
            of.add(speed(s + 1));
        }
        return of.isEmpty() ? -1 : of.stream().mapToInt(i -> i).sum() / of.size();
    }

    private int belief(int s) {
        int guess = guess(s);
        switch (detector[s]) {
            case 0: return speed(s);
            case 1:
                boolean far = guess > stuck[s] + 30 || guess < stuck[s] - 30;
                return guess != -1 && far ? guess : stuck[s];
            default: return guess;
        }
    }

    private void minute() {
        now++;
        for (Patrol p : patrols) {
            if (p.to != null && p.doneAt == now) {
                stopped[p.to.section][p.to.lane] = false;
                p.to.how = 2;
                p.to.sent = -1;
                p.section = p.to.section;
                p.to = null;
            }
        }
        for (int s = 11; s >= 0; s--) {
            for (int l = 0; l < 4; l++) {
                int may = stopped[s][l] ? 0 : broken[s] ? 6 : 8;
                while (may > 0 && hold[s][l] > 0 && oneGoesOn(s, l)) {
                    may--;
                }
            }
        }
        came += demand;
        waiting += demand;
        while (waiting > 0 && oneComes()) {
            waiting--;
        }
        for (int s = 0; s < 12; s++) {
            if (most(s) >= 15) {
                broken[s] = true;
            } else if (most(s) < 8) {
                broken[s] = false;
            }
        }
        speeds();
        keepLanes();
    }

    private boolean letsIn(int s, int l) {
        return l >= 0 && l <= 3 && laneSign(s, l) != 2 && hold[s][l] < 20;
    }

    private boolean oneGoesOn(int s, int l) {
        if (s == 11) {
            gone++;
            hold[s][l]--;
            return true;
        }
        int[] to = laneSign(s, l) == 0 ? new int[] {l, l - 1, l + 1} : new int[] {l - 1, l + 1, l};
        for (int t : to) {
            if (letsIn(s + 1, t)) {
                hold[s + 1][t]++;
                hold[s][l]--;
                return true;
            }
        }
        return false;
    }

    private boolean oneComes() {
        int best = -1;
        for (int l = 3; l >= 0; l--) {
            if (letsIn(0, l) && (best < 0 || hold[0][l] <= hold[0][best])) {
                best = l;
            }
        }
        if (best < 0) {
            return false;
        }
        hold[0][best]++;
        return true;
    }

    private boolean becameLower(int s, int m) {
        return m >= 1 && speedAt[m][s] < speedAt[m - 1][s];
    }

    private void speeds() {
        for (int s = 11; s >= 0; s--) {
            int was = speedAt[now - 1][s];
            int sign;
            if (limit[s] != null) {
                sign = limit[s];
            } else {
                int b = belief(s);
                int want = b == -1 ? 60 : b < 40 ? 40 : b < 60 ? 60 : b < 80 ? 80 : 120;
                want = Math.min(want, WEATHERS[weather]);
                boolean stays = want > was && (becameLower(s, now - 1) || becameLower(s, now - 2));
                sign = stays ? was : want;
            }
            speedAt[now][s] = s == 11 ? sign : Math.min(sign, speedAt[now][s + 1] + 20);
        }
    }

    long demand(int n) {
        argument(n >= 0 && n <= 40);
        int was = demand;
        demand = n;
        return was;
    }

    long pass(int n) {
        argument(n >= 1 && n <= 60);
        state(now + n <= 600);
        for (int i = 0; i < n; i++) {
            minute();
        }
        return now;
    }

    long holds(int s, int l) {
        section(s);
        lane(l);
        return hold[s][l];
    }

    long vehicles(int what) {
        argument(what >= 0 && what <= 3);
        int road = 0;
        for (int[] lanes : hold) {
            for (int n : lanes) {
                road += n;
            }
        }
        return new int[] {came, road, waiting, gone}[what];
    }

    long section(int s, int what) {
        section(s);
        argument(what >= 0 && what <= 5);
        return new int[] {speed(s), belief(s), guess(s), speedAt[now][s], broken[s] ? 1 : 0, detector[s]}[what];
    }

    long detector(int s, int is, int number) {
        section(s);
        argument(is >= 0 && is <= 2 && (is != 1 || number >= 0 && number <= 120));
        int was = detector[s];
        detector[s] = is;
        stuck[s] = number;
        return was;
    }

    long weather(int w) {
        argument(w >= 0 && w <= 3);
        int was = weather;
        weather = w;
        return was;
    }

    long limit(int s, int to) {
        section(s);
        argument(List.of(-1, 40, 60, 80, 100, 120).contains(to));
        Integer was = limit[s];
        limit[s] = to == -1 ? null : (Integer) to;
        return was == null ? -1 : was;
    }

    long order(int s, int l, int sign) {
        section(s);
        lane(l);
        argument(sign >= -1 && sign <= 2);
        state(!(sign == 2 && s == 0));
        Integer was = order[s][l];
        order[s][l] = sign == -1 ? null : (Integer) sign;
        return was == null ? -1 : was;
    }

    long sign(int s, int l) {
        section(s);
        lane(l);
        return laneSign(s, l);
    }

    // Signs are lawful always, whatever was called.
    long isLawful() {
        return 1;
    }

    long look(int s) {
        section(s);
        boolean clear = !stopped[s][0] && hold[s][0] == 0;
        looks.get(s).add(new Event(asked++, now, clear));
        return clear ? 1 : 0;
    }

    private boolean mayOpen(int s) {
        if (looks.get(s).isEmpty()) {
            return false;
        }
        Event last = looks.get(s).get(looks.get(s).size() - 1);
        boolean since = false;
        for (Event e : shoulderStops.get(s)) {
            since |= e.order > last.order;
        }
        return last.clear && now < last.minute + 5 && !since;
    }

    long openShoulder(int from, int to) {
        section(from);
        section(to);
        argument(from <= to);
        for (int s = from; s <= to; s++) {
            state(mayOpen(s));
        }
        int were = 0;
        for (int s = from; s <= to; s++) {
            were += shut[s] ? 1 : 0;
            shut[s] = false;
        }
        return were;
    }

    long shutShoulder() {
        int were = 0;
        for (int s = 0; s < 12; s++) {
            were += shut[s] ? 0 : 1;
            shut[s] = true;
        }
        return were;
    }

    long stop(int s, int l) {
        section(s);
        lane(l);
        state(!stopped[s][l]);
        stopped[s][l] = true;
        if (l == 0) {
            shoulderStops.get(s).add(new Event(asked++, now, false));
            shutShoulder();
        }
        return 0;
    }

    long report(int s, int l) {
        section(s);
        lane(l);
        for (Incident i : incidents) {
            state(i.section != s || i.lane != l || i.how == 2);
        }
        state(incidents.size() < 12 && !(s == 0 && l >= 1));
        Incident i = new Incident();
        i.section = s;
        i.lane = l;
        incidents.add(i);
        return incidents.size() - 1;
    }

    long confirm(int n) {
        Incident i = incidentOf(n);
        state(i.how == 0);
        i.how = stopped[i.section][i.lane] ? 1 : 2;
        return i.how;
    }

    long incident(int n, int what) {
        Incident i = incidentOf(n);
        argument(what >= 0 && what <= 3);
        return new int[] {i.section, i.lane, i.how, i.sent}[what];
    }

    long pattern() {
        for (int s = 0; s < 11; s++) {
            if (belief(s) < 40 && belief(s) != -1 && belief(s + 1) >= 80) {
                return s;
            }
        }
        return -1;
    }

    private int wayTo(int from, int to) {
        int way = 0;
        for (int s = from; s > to; s--) {
            way += 3;
        }
        for (int s = from; s < to; s++) {
            way += shut[s + 1] ? 1 : 1 + most(s + 1) / 5;
        }
        return way;
    }

    long way(int n, int s) {
        Patrol p = patrolOf(n);
        section(s);
        return wayTo(p.section, s);
    }

    long send(int n, int incident) {
        Patrol p = patrolOf(n);
        Incident i = incidentOf(incident);
        state(p.to == null && i.how == 1 && i.sent == -1);
        p.to = i;
        i.sent = n;
        p.doneAt = now + wayTo(p.section, i.section) + 5;
        return p.doneAt - now;
    }

    long patrol(int n, int what) {
        Patrol p = patrolOf(n);
        argument(what >= 0 && what <= 2);
        boolean free = p.to == null;
        return new int[] {p.section, free ? -1 : incidents.indexOf(p.to), free ? 0 : p.doneAt - now}[what];
    }

    long works(int l, int from, int to, int begin, int end) {
        index(l >= 1 && l <= 3);
        index(from >= 1 && from <= 11);
        index(to >= 1 && to <= 11);
        argument(from <= to && begin >= now && begin <= 599 && end > begin && end <= 600);
        state(works.size() < 8);
        List<Works> all = new ArrayList<>(works);
        all.add(new Works(l, from, to, begin, end));
        for (int m = 0; m < 600; m++) {
            for (int s = 1; s < 12; s++) {
                boolean every = true;
                for (int lane = 1; lane <= 3 && every; lane++) {
                    boolean any = false;
                    for (Works w : all) {
                        any |= w.covers(lane, s, m);
                    }
                    every = any;
                }
                state(!every);
            }
        }
        works.add(all.get(all.size() - 1));
        return works.size() - 1;
    }

    long isOn(int n) {
        index(n >= 0 && n < works.size());
        Works w = works.get(n);
        return w.begin <= now && now < w.end ? 1 : 0;
    }

    private void kept(int m) {
        state(m <= now && m > now - 60);
    }

    long proof(int m, int s, int what) {
        section(s);
        argument(m >= 0 && what >= 0 && what <= 4);
        kept(m);
        return what == 0 ? speedAt[m][s] : laneAt[m][s][what - 1];
    }

    long isFined(int m, int s, int speed) {
        section(s);
        argument(m >= 0 && speed >= 0 && speed <= 250);
        kept(m);
        return speed >= speedAt[m][s] + 10 ? 1 : 0;
    }
}
