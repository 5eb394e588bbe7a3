/** Promises 17 to 21: looking ahead, the mean and the digest. */
final class AheadTest {
    private AheadTest() {
    }

    public static void main(String[] args) {
        foresees();
        arrivesInTime();
        arrivesAtTheLastHour();
        advises();
        advisesTheSmallestOfSeveral();
        advisesNone();
        lookingAheadChangesNothing();
        means();
        digests();
        Check.end();
    }

    private static void foresees() {
        MountainPost p = Posts.road(3);
        Check.outOfBounds("foresee(0, 0) of none", () -> p.foresee(0, 0));
        p.addMule(0, 1, false);
        p.post(0, 1, 0);
        p.post(0, 1, 9);
        int[] due = {0, 1, 1, 1, 2, 2};
        for (int i = 0; i < due.length; i++) {
            int hours = i;
            Check.due("foresee(1, " + hours + ")", due[hours], () -> p.foresee(1, hours));
        }
        Check.due("foresee(0, 300)", 2, () -> p.foresee(0, 300));
        p.recall(0);
        Check.due("foresee(0, 0)", 0, () -> p.foresee(0, 0));
        Check.due("foresee(0, 1)", 3, () -> p.foresee(0, 1));
        Check.outOfBounds("foresee(2, -1)", () -> p.foresee(2, -1));
        Check.outOfBounds("foresee(-1, 0)", () -> p.foresee(-1, 0));
        Check.wrongArgument("foresee(0, -1)", () -> p.foresee(0, -1));
        Check.wrongArgument("foresee(0, 301)", () -> p.foresee(0, 301));
    }

    private static void arrivesInTime() {
        MountainPost p = Posts.road(3);
        Check.outOfBounds("arrives(0) of none", () -> p.arrives(0));
        p.pass(10);
        p.post(0, 1, 0);
        p.post(0, 1, 0);
        Check.due("arrives(0) without a mule", -1, () -> p.arrives(0));
        p.addMule(0, 1, false);
        Check.due("arrives(0)", 13, () -> p.arrives(0));
        Check.due("arrives(1)", 19, () -> p.arrives(1));
        p.recall(1);
        Check.due("arrives(1) when it is recalled", 10, () -> p.arrives(1));
        p.pass(50);
        Check.due("arrives(0) when it has come", 13, () -> p.arrives(0));
        Check.due("arrives(1) when it is back", 10, () -> p.arrives(1));
        Check.outOfBounds("arrives(2)", () -> p.arrives(2));
        Check.outOfBounds("arrives(-1)", () -> p.arrives(-1));
    }

    /** A mule of load 1 on a road of 5 hours brings letter n in hour 5 + 10 n: letter 29 in hour 295, 30 in 305. */
    private static void arrivesAtTheLastHour() {
        MountainPost p = Posts.road(5);
        p.addMule(0, 1, false);
        for (int i = 0; i < 31; i++) {
            p.post(0, 1, 0);
        }
        Check.due("arrives(29)", 295, () -> p.arrives(29));
        Check.due("arrives(30) in 305 hours", -1, () -> p.arrives(30));
        Check.due("foresee(30, 300)", 0, () -> p.foresee(30, 300));
        p.pass(5);
        Check.due("arrives(30) in the hour that begins behind 300 hours", -1, () -> p.arrives(30));
        p.pass(1);
        Check.due("arrives(30) in 299 hours", 305, () -> p.arrives(30));
        Check.due("foresee(30, 299)", 1, () -> p.foresee(30, 299));
        Check.due("foresee(30, 300) then", 2, () -> p.foresee(30, 300));
    }

    private static void advises() {
        MountainPost p = new MountainPost();
        for (int i = 0; i < 4; i++) {
            p.addStation(0);
        }
        p.build(0, 1, 1);
        p.build(1, 2, 1);
        p.build(3, 2, 1);
        p.addMule(0, 1, false);
        p.post(0, 1, 0);
        p.post(1, 2, 0);
        p.post(2, 3, 0);
        p.post(2, 3, 0);
        Check.due("advise(1): nothing comes in an hour", -1, () -> p.advise(1));
        Check.due("advise(2): a mule at 1 brings one, the one at 3 has yet to fetch", 1, () -> p.advise(2));
        Check.due("advise(3): two from 2 to 3", 2, () -> p.advise(3));
        Check.wrongArgument("advise(0)", () -> p.advise(0));
        Check.wrongArgument("advise(51)", () -> p.advise(51));
        for (int i = 0; i < 11; i++) {
            p.addMule(0, 1, true);
        }
        Check.wrongState("advise(50) with 12 mules", () -> p.advise(50));
        Check.wrongArgument("advise(51) with 12 mules", () -> p.advise(51));
    }

    private static void advisesTheSmallestOfSeveral() {
        MountainPost p = Posts.road(2);
        p.build(0, 1, 1);
        p.build(1, 0, 1);
        for (int i = 0; i < 7; i++) {
            p.post(0, 1, 0);
        }
        Check.due("advise(2): from a at once, of six", 1, () -> p.advise(2));
        Check.due("advise(3): all three bring six", 0, () -> p.advise(3));
        Check.due("advise(4): seven by road 1", 1, () -> p.advise(4));
    }

    private static void advisesNone() {
        MountainPost p = new MountainPost();
        Check.due("advise(5) without roads", -1, () -> p.advise(5));
        MountainPost q = Posts.road(2);
        q.addMule(0, 6, false);
        Check.due("advise(50) without letters", -1, () -> q.advise(50));
        q.post(0, 1, 0);
        Check.due("advise(50) of no use", -1, () -> q.advise(50));
        q.recall(0);
        Check.due("advise(50) for one that will be back", -1, () -> q.advise(50));
    }

    private static void lookingAheadChangesNothing() {
        MountainPost p = Posts.road(2);
        p.addMule(0, 1, true);
        p.post(0, 1, 0);
        p.post(1, 0, 0);
        p.recall(0);
        long before = p.digest();
        p.foresee(0, 300);
        p.arrives(1);
        p.advise(50);
        p.way(0, 1, 0);
        p.fire(0, 1);
        Check.due("digest()", before, p::digest);
        Check.due("way(0, 1, 1)", 0, () -> p.way(0, 1, 1));
    }

    private static void means() {
        MountainPost p = Posts.road(1);
        p.addMule(0, 1, false);
        Check.due("mean() of none", 0.0, p::mean);
        p.pass(9);
        p.post(0, 1, 0);
        Check.due("mean() of none that has come", 0.0, p::mean);
        p.pass(1);
        p.post(0, 1, 0);
        p.post(0, 1, 0);
        p.recall(2);
        p.pass(1);
        Check.due("mean() of one", 1.0, p::mean);
        p.pass(5);
        Check.due("mean() of two: 1 and 2 hours", 1.5, p::mean);
        Check.due("one is back and does not tell", 1, () -> p.count(8));
    }

    private static void digests() {
        MountainPost p = new MountainPost();
        long d = 547;
        for (int i = 0; i < 10; i++) {
            d *= 31;
        }
        Check.due("digest() of a new one", d, p::digest);
        MountainPost q = Posts.road(4);
        q.addMule(0, 3, false);
        q.setFog(1, true);
        q.setSight(0, 1, true);
        q.post(1, 0, 7);
        q.recall(0);
        int[] numbers = {
            0, 2, 1, 1, 1, 1, 0, 0, 0, 0,
            100, 0, 1, 1, 0, 100, 1, 0, 1, 1,
            0, 1, 4, 4, 1, 0,
            0, 3, 0, 0, 0, 0,
            1, 0, 7, 0, 1, -1, 1, 0, 0, -1, 1
        };
        long due = 547;
        for (int number : numbers) {
            due = due * 31 + number;
        }
        long want = due;
        Check.due("digest() of one with a letter", want, q::digest);
    }
}
