/** Promises 15 and 16: each sentence of the document that names a boundary case has a test here. */
final class WaysEdgesTest {
    private WaysEdgesTest() {
    }

    public static void main(String[] args) {
        aRoadWithoutAMule();
        aRoadWithAMuleOnItsWay();
        aRoadThatCountsFromNowOn();
        eachInItsDirection();
        theLeastSum();
        theLongestWay();
        theSmallestFirstRoad();
        notTheSmallestIfItIsLonger();
        noWay();
        theSameStation();
        waysOfNoStation();
        noSuchNumberOfAWay();
        fireAtTheSameStation();
        noFireWithoutSight();
        noFireInFog();
        theFewestHoursOfAFire();
        fogAndSightAsTheyAreNow();
        theFarthestFire();
        firesOfNoStation();
        firesAreKnownWhenTheyAreToldToBe();
        Check.end();
    }

    private static void aRoadWithoutAMule() {
        Check.sentence("A road counts, if there is a mule on it.");
        MountainPost p = Posts.road(5);
        p.build(0, 1, 1);
        wayIs(p, 0, 1, -1, -1);
        p.addMule(0, 1, true);
        wayIs(p, 0, 1, 5, 0);
        wayIs(p, 1, 0, 5, 0);
        p.addMule(0, 1, false);
        wayIs(p, 0, 1, 5, 0);
        p.addMule(1, 1, true);
        wayIs(p, 0, 1, 1, 1);
    }

    private static void aRoadWithAMuleOnItsWay() {
        Check.sentence("if there is a mule on it");
        MountainPost p = Posts.line(2);
        p.post(0, 1, 0);
        p.pass(1);
        Check.due("it is on its way: station(0, 2)", 0, () -> p.station(0, 2));
        wayIs(p, 0, 1, 2, 0);
        wayIs(p, 1, 0, 2, 0);
    }

    private static void aRoadThatCountsFromNowOn() {
        Check.sentence("A road counts, if there is a mule on it.");
        MountainPost p = Posts.line(3);
        p.build(0, 2, 3);
        p.post(0, 2, 0);
        wayIs(p, 0, 2, 4, 0);
        Check.due("by two roads: arrives(0)", 4, () -> p.arrives(0));
        p.addMule(2, 1, true);
        wayIs(p, 0, 2, 3, 2);
        Check.due("by the new mule, which must come first: arrives(0)", 6, () -> p.arrives(0));
        p.pass(100);
        Check.due("letter(0, 9)", 6, () -> p.letter(0, 9));
        Check.due("the others stayed: mule(0, 5)", 0, () -> p.mule(0, 5));
    }

    private static void eachInItsDirection() {
        Check.sentence("the least sum of the hours of roads that count, each in its direction");
        MountainPost p = Posts.heights(0, 1000, 400);
        p.build(1, 0, 2);
        p.build(1, 2, 3);
        p.addMule(0, 1, false);
        p.addMule(1, 1, false);
        wayIs(p, 0, 1, 2 + 5, 0);
        wayIs(p, 1, 0, 2, 0);
        wayIs(p, 0, 2, 2 + 5 + 3, 0);
        wayIs(p, 2, 0, 3 + 3 + 2, 1);
    }

    private static void theLeastSum() {
        Check.sentence("are the least sum");
        MountainPost p = Posts.level(4);
        p.build(0, 3, 4);
        p.build(0, 1, 1);
        p.build(1, 2, 1);
        p.build(2, 3, 1);
        for (int road = 0; road < 4; road++) {
            p.addMule(road, 1, false);
        }
        wayIs(p, 0, 3, 3, 1);
        wayIs(p, 3, 0, 3, 3);
        wayIs(p, 0, 2, 2, 1);
        wayIs(p, 1, 3, 2, 2);
        MountainPost q = Posts.level(3);
        q.build(1, 2, 5);
        q.build(2, 0, 2);
        q.build(0, 1, 2);
        for (int road = 0; road < 3; road++) {
            q.addMule(road, 1, false);
        }
        wayIs(q, 1, 2, 4, 2);
        wayIs(q, 2, 1, 4, 1);
    }

    private static void theLongestWay() {
        Check.sentence("Stations. There are at most 10");
        MountainPost p = new MountainPost();
        for (int s = 0; s < 10; s++) {
            p.addStation(s % 2 == 0 ? 0 : 4000);
        }
        // The numbers of roads fall on the way, so that no order of looking at them finds it at once.
        for (int road = 0; road < 9; road++) {
            p.build(8 - road, 9 - road, 20);
            p.addMule(road, 1, false);
        }
        wayIs(p, 0, 9, 5 * 40 + 4 * 20, 8);
        wayIs(p, 9, 0, 4 * 40 + 5 * 20, 0);
    }

    private static void theSmallestFirstRoad() {
        Check.sentence("with which one of the ways with the fewest hours begins, the one with the smallest number");
        MountainPost p = Posts.level(4);
        p.build(3, 1, 2);
        p.build(2, 0, 1);
        p.build(1, 0, 2);
        p.build(0, 1, 2);
        p.build(2, 3, 3);
        p.build(0, 3, 4);
        for (int road = 5; road >= 0; road--) {
            p.addMule(road, 1, false);
        }
        wayIs(p, 0, 3, 4, 1);
        wayIs(p, 3, 0, 4, 0);
        wayIs(p, 0, 1, 2, 2);
        wayIs(p, 1, 0, 2, 2);
    }

    private static void notTheSmallestIfItIsLonger() {
        Check.sentence("of all with which one of the ways with the fewest hours begins");
        MountainPost p = Posts.road(3);
        p.build(0, 1, 2);
        p.build(0, 1, 2);
        for (int road = 0; road < 3; road++) {
            p.addMule(road, 1, false);
        }
        wayIs(p, 0, 1, 2, 1);
    }

    private static void noWay() {
        Check.sentence("-1 if there is no way");
        MountainPost p = Posts.level(10);
        p.build(0, 1, 1);
        p.build(1, 2, 1);
        p.build(8, 9, 1);
        p.addMule(0, 1, false);
        p.addMule(2, 1, false);
        wayIs(p, 0, 2, -1, -1);
        wayIs(p, 2, 0, -1, -1);
        wayIs(p, 0, 9, -1, -1);
        MountainPost q = Posts.level(10);
        for (int pair = 0; pair < 100; pair++) {
            if (pair / 10 != pair % 10) {
                wayIs(q, pair / 10, pair % 10, -1, -1);
            }
        }
    }

    private static void theSameStation() {
        Check.sentence("for the same station 0 hours, and -1 as the road");
        MountainPost p = Posts.road(1);
        wayIs(p, 0, 0, 0, -1);
        p.addMule(0, 1, false);
        wayIs(p, 0, 0, 0, -1);
        wayIs(p, 1, 1, 0, -1);
        p.addStation(0);
        wayIs(p, 2, 2, 0, -1);
    }

    private static void waysOfNoStation() {
        Check.sentence("way: Throws `IndexOutOfBoundsException` if there is no such station");
        MountainPost p = Posts.line(3);
        for (int station : Check.outside(0, 2)) {
            for (int what = 0; what <= 1; what++) {
                int w = what;
                Check.outOfBounds("way(" + station + ", 0, " + w + ")", () -> p.way(station, 0, w));
                Check.outOfBounds("way(0, " + station + ", " + w + ")", () -> p.way(0, station, w));
                Check.outOfBounds("the same one, " + station, () -> p.way(station, station, w));
            }
        }
        wayIs(p, 0, 2, 4, 0);
    }

    private static void noSuchNumberOfAWay() {
        Check.sentence("or what is not 0 to 1");
        MountainPost p = Posts.line(2);
        for (int what : Check.outside(0, 1)) {
            Check.outOfBounds("way(0, 1, " + what + ")", () -> p.way(0, 1, what));
            Check.outOfBounds("way(0, 0, " + what + ")", () -> p.way(0, 0, what));
        }
    }

    private static void wayIs(MountainPost p, int from, int to, int hours, int road) {
        Check.due("way(" + from + ", " + to + ", 0)", hours, () -> p.way(from, to, 0));
        Check.due("way(" + from + ", " + to + ", 1)", road, () -> p.way(from, to, 1));
    }

    // ---- promise 16

    private static void fireAtTheSameStation() {
        Check.sentence("(0 for the same station)");
        MountainPost p = Posts.level(2);
        fireIs(p, 0, 0, 0);
        p.setSight(0, 1, true);
        fireIs(p, 1, 1, 0);
        p.setFog(1, true);
        fireIs(p, 1, 1, 0);
    }

    private static void noFireWithoutSight() {
        Check.sentence("-1 if it would not");
        MountainPost p = Posts.level(4);
        p.setSight(0, 1, true);
        p.setSight(2, 3, true);
        fireIs(p, 0, 1, 1);
        fireIs(p, 1, 2, -1);
        fireIs(p, 0, 3, -1);
    }

    private static void noFireInFog() {
        Check.sentence("by fog and sight as they are now .. -1 if it would not");
        MountainPost p = Posts.level(3);
        Posts.chainOfSight(p, 3);
        p.setFog(0, true);
        fireIs(p, 0, 1, -1);
        fireIs(p, 0, 2, -1);
        fireIs(p, 1, 0, -1);
        fireIs(p, 2, 1, 1);
        p.setFog(0, false);
        p.setFog(1, true);
        fireIs(p, 0, 1, -1);
        fireIs(p, 0, 2, -1);
        fireIs(p, 1, 2, -1);
    }

    private static void theFewestHoursOfAFire() {
        Check.sentence("Returns in how many hours at least a fire from the one would be known at the other one");
        MountainPost p = Posts.level(6);
        Posts.chainOfSight(p, 6);
        p.setSight(0, 4, true);
        fireIs(p, 0, 5, 2);
        fireIs(p, 0, 3, 2);
        fireIs(p, 0, 2, 2);
        fireIs(p, 5, 1, 3);
        p.setFog(4, true);
        fireIs(p, 0, 3, 3);
        fireIs(p, 0, 5, -1);
    }

    private static void fogAndSightAsTheyAreNow() {
        Check.sentence("by fog and sight as they are now");
        MountainPost p = Posts.level(3);
        Posts.chainOfSight(p, 3);
        fireIs(p, 0, 2, 2);
        p.setFog(1, true);
        fireIs(p, 0, 2, -1);
        p.setSight(2, 0, true);
        fireIs(p, 0, 2, 1);
        p.setSight(0, 2, false);
        fireIs(p, 0, 2, -1);
        p.setFog(1, false);
        fireIs(p, 0, 2, 2);
    }

    private static void theFarthestFire() {
        Check.sentence("in how many hours at least");
        MountainPost p = Posts.level(10);
        Posts.chainOfSight(p, 10);
        for (int s = 0; s < 10; s++) {
            fireIs(p, 0, s, s);
            fireIs(p, 9, s, 9 - s);
        }
    }

    private static void firesOfNoStation() {
        Check.sentence("fire: Throws `IndexOutOfBoundsException` if there is no such station");
        MountainPost p = Posts.level(3);
        Posts.chainOfSight(p, 3);
        for (int station : Check.outside(0, 2)) {
            Check.outOfBounds("fire(" + station + ", 0)", () -> p.fire(station, 0));
            Check.outOfBounds("fire(0, " + station + ")", () -> p.fire(0, station));
            Check.outOfBounds("the same one, " + station, () -> p.fire(station, station));
        }
        fireIs(p, 0, 2, 2);
    }

    private static void firesAreKnownWhenTheyAreToldToBe() {
        Check.sentence("would be known at the other one");
        MountainPost p = Posts.full();
        p.setFog(3, true);
        p.setFog(7, true);
        int letter = 0;
        int home = p.letter(letter, 0);
        int others = p.recall(letter);
        for (int hour = 0; hour <= 10; hour++) {
            int known = 0;
            for (int s = 0; s < 10; s++) {
                int hours = p.fire(home, s);
                known += hours != -1 && hours <= hour ? 1 : 0;
            }
            int due = known;
            Check.due("letter(0, 10) behind " + hour + " hours", due, () -> p.letter(letter, 10));
            p.pass(1);
        }
        Check.due("letter(0, 10) in the end", others + 1, () -> p.letter(letter, 10));
    }

    private static void fireIs(MountainPost p, int from, int to, int due) {
        Check.due("fire(" + from + ", " + to + ")", due, () -> p.fire(from, to));
    }
}
