/** Promises 15 and 16: ways and fires. */
final class WaysTest {
    private WaysTest() {
    }

    public static void main(String[] args) {
        onlyRoadsWithMulesCount();
        uphillIsLonger();
        smallestFirstRoad();
        aShorterWayComesLater();
        wrongWays();
        fires();
        firesInFog();
        fireThroughTenStations();
        wrongFires();
        Check.end();
    }

    private static void onlyRoadsWithMulesCount() {
        MountainPost p = Posts.heights(0, 0, 0);
        p.build(0, 1, 5);
        way(p, 0, 1, -1, -1);
        way(p, 1, 1, 0, -1);
        p.addMule(0, 1, false);
        way(p, 0, 1, 5, 0);
        way(p, 1, 0, 5, 0);
        p.build(0, 1, 1);
        way(p, 0, 1, 5, 0);
        way(p, 0, 2, -1, -1);
    }

    /** Uphill the long road round the peak is shorter, downhill the direct one. */
    private static void uphillIsLonger() {
        MountainPost p = Posts.heights(0, 4000, 0, 4000);
        p.build(0, 1, 1);
        p.build(1, 2, 1);
        p.build(0, 2, 4);
        for (int road = 0; road < 3; road++) {
            p.addMule(road, 1, true);
        }
        way(p, 0, 2, 4, 2);
        way(p, 0, 1, 21, 0);
        way(p, 1, 0, 1, 0);
        way(p, 1, 2, 1, 1);
        way(p, 2, 0, 4, 2);
        way(p, 0, 3, -1, -1);
    }

    private static void smallestFirstRoad() {
        MountainPost p = Posts.heights(0, 0, 0, 0);
        p.build(2, 3, 1);
        p.build(0, 2, 3);
        p.build(1, 3, 2);
        p.build(0, 1, 2);
        p.build(0, 3, 4);
        p.build(0, 1, 2);
        for (int road = 5; road >= 0; road--) {
            p.addMule(road, 1, false);
        }
        way(p, 0, 3, 4, 1);
        way(p, 3, 0, 4, 0);
        way(p, 0, 1, 2, 3);
        way(p, 2, 1, 3, 0);
    }

    private static void aShorterWayComesLater() {
        MountainPost p = Posts.heights(0, 0, 0);
        p.build(0, 2, 9);
        p.build(0, 1, 2);
        p.build(1, 2, 2);
        p.addMule(0, 1, false);
        p.addMule(1, 1, false);
        way(p, 0, 2, 9, 0);
        way(p, 1, 2, 11, 1);
        p.addMule(2, 1, false);
        way(p, 0, 2, 4, 1);
        way(p, 1, 2, 2, 2);
        p.pass(5);
        way(p, 2, 0, 4, 2);
    }

    private static void wrongWays() {
        MountainPost p = Posts.heights(0, 0);
        Check.outOfBounds("way(0, 2, 0)", () -> p.way(0, 2, 0));
        Check.outOfBounds("way(-1, 0, 0)", () -> p.way(-1, 0, 0));
        Check.outOfBounds("way(2, 2, 0)", () -> p.way(2, 2, 0));
        Check.outOfBounds("way(0, 1, 2)", () -> p.way(0, 1, 2));
        Check.outOfBounds("way(0, 0, -1)", () -> p.way(0, 0, -1));
        Check.outOfBounds("way(greatest, 0, 0)", () -> p.way(Integer.MAX_VALUE, 0, 0));
    }

    private static void way(MountainPost p, int from, int to, int hours, int road) {
        Check.due("way(" + from + ", " + to + ", 0)", hours, () -> p.way(from, to, 0));
        Check.due("way(" + from + ", " + to + ", 1)", road, () -> p.way(from, to, 1));
    }

    private static void fires() {
        MountainPost p = Posts.heights(0, 0, 0, 0, 0);
        p.setSight(0, 1, true);
        p.setSight(1, 2, true);
        p.setSight(2, 3, true);
        fire(p, 0, 0, 0);
        fire(p, 0, 1, 1);
        fire(p, 0, 3, 3);
        fire(p, 3, 0, 3);
        fire(p, 0, 4, -1);
        p.setSight(0, 2, true);
        fire(p, 0, 3, 2);
        p.setSight(2, 3, false);
        fire(p, 0, 3, -1);
    }

    private static void firesInFog() {
        MountainPost p = Posts.heights(0, 0, 0);
        p.setSight(0, 1, true);
        p.setSight(1, 2, true);
        p.setFog(1, true);
        fire(p, 0, 1, -1);
        fire(p, 0, 2, -1);
        fire(p, 1, 0, -1);
        fire(p, 1, 1, 0);
        p.setSight(0, 2, true);
        fire(p, 0, 2, 1);
        p.setFog(1, false);
        fire(p, 0, 1, 1);
    }

    private static void fireThroughTenStations() {
        MountainPost p = Posts.heights(0, 0, 0, 0, 0, 0, 0, 0, 0, 0);
        for (int s = 0; s < 9; s++) {
            p.setSight(s, s + 1, true);
        }
        fire(p, 0, 9, 9);
        fire(p, 9, 0, 9);
        p.post(0, 9, 0);
        Check.due("recall(0)", 9, () -> p.recall(0));
    }

    private static void wrongFires() {
        MountainPost p = Posts.heights(0, 0);
        Check.outOfBounds("fire(0, 2)", () -> p.fire(0, 2));
        Check.outOfBounds("fire(2, 2)", () -> p.fire(2, 2));
        Check.outOfBounds("fire(-1, 0)", () -> p.fire(-1, 0));
    }

    private static void fire(MountainPost p, int from, int to, int due) {
        Check.due("fire(" + from + ", " + to + ")", due, () -> p.fire(from, to));
    }
}
