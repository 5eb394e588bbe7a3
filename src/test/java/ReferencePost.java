import java.util.ArrayDeque;
import java.util.ArrayList;
import java.util.Comparator;
import java.util.HashMap;
import java.util.HashSet;
import java.util.List;
import java.util.Map;
import java.util.Set;

/**
 * The document once more, slow and plain, with the Java library: the program is compared with it on many runs.
 * It shares no idea with the program but the document: objects and sets here, rows of numbers there.
 */
final class ReferencePost {
    static final class Station {
        int height;
        boolean fog;
        final Set<Integer> sees = new HashSet<>();
    }

    static final class Road {
        int a;
        int b;
        int length;
    }

    static final class Mule {
        int road;
        int load;
        boolean onWay;
        int at;
        int left;
        int walked;
    }

    static final class Letter {
        int number;
        int from;
        int to;
        int urgency;
        String state = "waits";
        int at;
        int mule = -1;
        boolean recalled;
        boolean turned;
        Set<Integer> knows = new HashSet<>();
        int posted;
        int ended = -1;

        int goal() {
            return turned ? from : to;
        }
    }

    List<Station> stations = new ArrayList<>();
    List<Road> roads = new ArrayList<>();
    List<Mule> mules = new ArrayList<>();
    List<Letter> letters = new ArrayList<>();
    int hour;
    int crosses;

    ReferencePost copy() {
        ReferencePost c = new ReferencePost();
        c.stations = stations;
        c.roads = roads;
        for (Mule m : mules) {
            Mule n = new Mule();
            n.road = m.road;
            n.load = m.load;
            n.onWay = m.onWay;
            n.at = m.at;
            n.left = m.left;
            n.walked = m.walked;
            c.mules.add(n);
        }
        for (Letter l : letters) {
            Letter n = new Letter();
            n.number = l.number;
            n.from = l.from;
            n.to = l.to;
            n.urgency = l.urgency;
            n.state = l.state;
            n.at = l.at;
            n.mule = l.mule;
            n.recalled = l.recalled;
            n.turned = l.turned;
            n.knows = new HashSet<>(l.knows);
            n.posted = l.posted;
            n.ended = l.ended;
            c.letters.add(n);
        }
        c.hour = hour;
        c.crosses = crosses;
        return c;
    }

    private static void bounds(boolean ok) {
        if (!ok) {
            throw new IndexOutOfBoundsException();
        }
    }

    private static void argument(boolean ok) {
        if (!ok) {
            throw new IllegalArgumentException();
        }
    }

    private static void state(boolean ok) {
        if (!ok) {
            throw new IllegalStateException();
        }
    }

    private boolean isStation(int s) {
        return 0 <= s && s < stations.size();
    }

    private int hoursOf(Road r, int from) {
        int other = r.a == from ? r.b : r.a;
        int here = stations.get(from).height;
        int there = stations.get(other).height;
        return there > here ? r.length + (there - here) / 200 : r.length;
    }

    int addStation(int height) {
        argument(height >= 0 && height <= 4000);
        state(stations.size() != 10);
        Station s = new Station();
        s.height = height;
        stations.add(s);
        return stations.size() - 1;
    }

    int setSight(int a, int b, boolean seen) {
        bounds(isStation(a) && isStation(b));
        argument(a != b);
        if (seen) {
            stations.get(a).sees.add(b);
            stations.get(b).sees.add(a);
        } else {
            stations.get(a).sees.remove(b);
            stations.get(b).sees.remove(a);
        }
        return stations.get(a).sees.size();
    }

    int setFog(int s, boolean foggy) {
        bounds(isStation(s));
        stations.get(s).fog = foggy;
        return (int) stations.stream().filter(x -> x.fog).count();
    }

    int build(int a, int b, int length) {
        bounds(isStation(a) && isStation(b));
        argument(a != b && length >= 1 && length <= 20);
        state(roads.size() != 15);
        Road r = new Road();
        r.a = a;
        r.b = b;
        r.length = length;
        roads.add(r);
        return roads.size() - 1;
    }

    int addMule(int road, int load, boolean isAtB) {
        bounds(0 <= road && road < roads.size());
        argument(load >= 1 && load <= 6);
        state(mules.size() != 12);
        Mule m = new Mule();
        m.road = road;
        m.load = load;
        m.at = isAtB ? roads.get(road).b : roads.get(road).a;
        mules.add(m);
        return mules.size() - 1;
    }

    int station(int s, int what) {
        bounds(isStation(s) && what >= 0 && what <= 4);
        Station x = stations.get(s);
        int[] told = {
            x.height,
            (int) letters.stream().filter(l -> l.state.equals("waits") && l.at == s).count(),
            (int) mules.stream().filter(m -> !m.onWay && m.at == s).count(),
            x.sees.size(),
            x.fog ? 1 : 0
        };
        return told[what];
    }

    int road(int r, int what) {
        bounds(0 <= r && r < roads.size() && what >= 0 && what <= 5);
        Road x = roads.get(r);
        int[] told = {
            x.a,
            x.b,
            hoursOf(x, x.a),
            hoursOf(x, x.b),
            (int) mules.stream().filter(m -> m.road == r).count(),
            (int) mules.stream().filter(m -> m.road == r && m.onWay).count()
        };
        return told[what];
    }

    int mule(int m, int what) {
        bounds(0 <= m && m < mules.size() && what >= 0 && what <= 5);
        Mule x = mules.get(m);
        int[] told = {
            x.road, x.load, x.at, x.onWay ? x.left : 0,
            (int) letters.stream().filter(l -> l.mule == m).count(),
            x.walked
        };
        return told[what];
    }

    int post(int from, int to, int urgency) {
        bounds(isStation(from) && isStation(to));
        argument(from != to && urgency >= 0 && urgency <= 9);
        state(letters.size() != 60);
        Letter l = new Letter();
        l.number = letters.size();
        l.from = from;
        l.to = to;
        l.urgency = urgency;
        l.at = from;
        l.posted = hour;
        letters.add(l);
        return l.number;
    }

    int recall(int letter) {
        bounds(0 <= letter && letter < letters.size());
        Letter l = letters.get(letter);
        state(!l.recalled && !l.state.equals("come") && !l.state.equals("back"));
        l.recalled = true;
        l.knows.add(l.from);
        return fires(l.from).size() - 1;
    }

    int letter(int letter, int what) {
        bounds(0 <= letter && letter < letters.size() && what >= 0 && what <= 10);
        Letter l = letters.get(letter);
        int[] told = {
            l.from, l.to, l.urgency, stateNumber(l), l.at, l.mule,
            l.recalled ? 1 : 0, l.turned ? 1 : 0, l.posted, l.ended, l.knows.size()
        };
        return told[what];
    }

    private static int stateNumber(Letter l) {
        return List.of("waits", "mule", "come", "back").indexOf(l.state);
    }

    int pass(int hours) {
        argument(hours >= 1 && hours <= 100);
        return run(hours);
    }

    int count(int what) {
        bounds(what >= 0 && what <= 9);
        int[] told = {
            hour, stations.size(), roads.size(), mules.size(), letters.size(),
            inState("waits"), inState("mule"), inState("come"), inState("back"), crosses
        };
        return told[what];
    }

    private int inState(String state) {
        return (int) letters.stream().filter(l -> l.state.equals(state)).count();
    }

    int way(int from, int to, int what) {
        bounds(isStation(from) && isStation(to) && (what == 0 || what == 1));
        if (what == 1) {
            return firstRoad(from, to);
        }
        return leastHours(to).getOrDefault(from, -1);
    }

    int fire(int from, int to) {
        bounds(isStation(from) && isStation(to));
        return fires(from).getOrDefault(to, -1);
    }

    int foresee(int letter, int hours) {
        bounds(0 <= letter && letter < letters.size());
        argument(hours >= 0 && hours <= 300);
        ReferencePost c = copy();
        c.run(hours);
        return stateNumber(c.letters.get(letter));
    }

    int arrives(int letter) {
        bounds(0 <= letter && letter < letters.size());
        ReferencePost c = copy();
        for (int h = 0; h < 300 && c.letters.get(letter).ended == -1; h++) {
            c.run(1);
        }
        return c.letters.get(letter).ended;
    }

    int advise(int hours) {
        argument(hours >= 1 && hours <= 50);
        state(mules.size() != 12);
        int without = copy().run(hours);
        int best = -1;
        int most = without;
        for (int r = 0; r < roads.size(); r++) {
            ReferencePost c = copy();
            c.addMule(r, 6, false);
            int come = c.run(hours);
            if (come > most) {
                most = come;
                best = r;
            }
        }
        return best;
    }

    double mean() {
        return letters.stream().filter(l -> l.state.equals("come"))
            .mapToInt(l -> l.ended - l.posted).average().orElse(0);
    }

    long digest() {
        long d = 547;
        for (int w = 0; w < 10; w++) {
            d = d * 31 + count(w);
        }
        for (int s = 0; s < stations.size(); s++) {
            for (int w = 0; w < 5; w++) {
                d = d * 31 + station(s, w);
            }
        }
        for (int r = 0; r < roads.size(); r++) {
            for (int w = 0; w < 6; w++) {
                d = d * 31 + road(r, w);
            }
        }
        for (int m = 0; m < mules.size(); m++) {
            for (int w = 0; w < 6; w++) {
                d = d * 31 + mule(m, w);
            }
        }
        for (int l = 0; l < letters.size(); l++) {
            for (int w = 0; w < 11; w++) {
                d = d * 31 + letter(l, w);
            }
        }
        return d;
    }

    /** For each station from which there is a way to this one, its hours: the roads are walked backwards. */
    private Map<Integer, Integer> leastHours(int to) {
        Map<Integer, Integer> least = new HashMap<>();
        least.put(to, 0);
        boolean changed = true;
        while (changed) {
            changed = false;
            for (int r = 0; r < roads.size(); r++) {
                if (!counts(r)) {
                    continue;
                }
                Road x = roads.get(r);
                for (int from : new int[] {x.a, x.b}) {
                    int next = from == x.a ? x.b : x.a;
                    if (least.containsKey(next)) {
                        int sum = least.get(next) + hoursOf(x, from);
                        if (!least.containsKey(from) || sum < least.get(from)) {
                            least.put(from, sum);
                            changed = true;
                        }
                    }
                }
            }
        }
        return least;
    }

    private boolean counts(int road) {
        return mules.stream().anyMatch(m -> m.road == road);
    }

    private int firstRoad(int from, int to) {
        Map<Integer, Integer> least = leastHours(to);
        if (from == to || !least.containsKey(from)) {
            return -1;
        }
        for (int r = 0; r < roads.size(); r++) {
            Road x = roads.get(r);
            if (counts(r) && (x.a == from || x.b == from)) {
                int next = x.a == from ? x.b : x.a;
                if (least.containsKey(next) && least.get(next) + hoursOf(x, from) == least.get(from)) {
                    return r;
                }
            }
        }
        throw new AssertionError("a way begins with a road");
    }

    private Map<Integer, Integer> fires(int from) {
        Map<Integer, Integer> hours = new HashMap<>();
        hours.put(from, 0);
        ArrayDeque<Integer> open = new ArrayDeque<>();
        open.add(from);
        while (!open.isEmpty()) {
            int s = open.remove();
            if (stations.get(s).fog) {
                continue;
            }
            for (int t : stations.get(s).sees) {
                if (!stations.get(t).fog && !hours.containsKey(t)) {
                    hours.put(t, hours.get(s) + 1);
                    open.add(t);
                }
            }
        }
        return hours;
    }

    private int run(int hours) {
        int before = inState("come");
        for (int h = 0; h < hours; h++) {
            step1();
            step2();
            step3();
            hour++;
        }
        return inState("come") - before;
    }

    private void step1() {
        for (int m = 0; m < mules.size(); m++) {
            Mule x = mules.get(m);
            if (!x.onWay) {
                continue;
            }
            x.left--;
            x.walked++;
            if (x.left == 0) {
                x.onWay = false;
                for (Letter l : letters) {
                    if (l.mule == m) {
                        l.mule = -1;
                        l.at = x.at;
                        l.state = "waits";
                        if (l.at == l.goal()) {
                            l.state = l.turned ? "back" : "come";
                            l.ended = hour;
                        }
                    }
                }
            }
        }
    }

    private void step2() {
        for (Letter l : letters) {
            if (!l.recalled) {
                continue;
            }
            for (int s : new ArrayList<>(l.knows)) {
                if (!stations.get(s).fog) {
                    for (int t : stations.get(s).sees) {
                        if (!stations.get(t).fog) {
                            l.knows.add(t);
                        }
                    }
                }
            }
            if (l.state.equals("waits") && l.knows.contains(l.at) && !l.turned) {
                l.turned = true;
                if (l.at == l.from) {
                    l.state = "back";
                    l.ended = hour;
                }
            }
        }
    }

    private void step3() {
        for (int m = 0; m < mules.size(); m++) {
            Mule x = mules.get(m);
            if (x.onWay) {
                continue;
            }
            Road road = roads.get(x.road);
            int here = x.at;
            int there = road.a == here ? road.b : road.a;
            List<Letter> taken = new ArrayList<>(goingBy(x.road, here));
            taken.sort(Comparator.comparing((Letter l) -> -l.urgency).thenComparing(l -> l.number));
            while (taken.size() > x.load) {
                taken.remove(taken.size() - 1);
            }
            for (Letter l : taken) {
                l.state = "mule";
                l.mule = m;
                l.at = -1;
            }
            if (taken.isEmpty() && goingBy(x.road, there).isEmpty()) {
                continue;
            }
            for (Mule other : mules) {
                if (other.onWay && other.road == x.road && other.at == here) {
                    for (Letter l : taken) {
                        for (Letter k : letters) {
                            if (k.mule == mules.indexOf(other) && k.from == l.to && l.from == k.to) {
                                crosses++;
                            }
                        }
                    }
                }
            }
            x.onWay = true;
            x.left = hoursOf(road, here);
            x.at = there;
        }
    }

    private List<Letter> goingBy(int road, int station) {
        List<Letter> found = new ArrayList<>();
        for (Letter l : letters) {
            if (l.state.equals("waits") && l.at == station && firstRoad(station, l.goal()) == road) {
                found.add(l);
            }
        }
        return found;
    }
}
