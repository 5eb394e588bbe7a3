/** Promises 1 to 9: a new object, and stations, roads and mules. */
final class LandTest {
    private LandTest() {
    }

    public static void main(String[] args) {
        newObject();
        stations();
        heights();
        sight();
        fog();
        roads();
        hoursOfRoads();
        mules();
        whatMulesTell();
        wrongCallsChangeNothing();
        Check.end();
    }

    private static void newObject() {
        MountainPost p = new MountainPost();
        for (int what = 0; what <= 9; what++) {
            int w = what;
            Check.due("new: count(" + w + ")", 0, () -> p.count(w));
        }
        Check.outOfBounds("new: station(0, 0)", () -> p.station(0, 0));
        Check.outOfBounds("new: road(0, 0)", () -> p.road(0, 0));
        Check.outOfBounds("new: mule(0, 0)", () -> p.mule(0, 0));
        Check.outOfBounds("new: letter(0, 0)", () -> p.letter(0, 0));
        Check.due("new: mean()", 0.0, p::mean);
        Check.due("new: pass(100)", 0, () -> p.pass(100));
        Check.due("new: count(0) behind it", 100, () -> p.count(0));
        Check.due("another new one: count(0)", 0, () -> new MountainPost().count(0));
    }

    private static void stations() {
        MountainPost p = new MountainPost();
        Check.wrongArgument("addStation(-1)", () -> p.addStation(-1));
        Check.wrongArgument("addStation(4001)", () -> p.addStation(4001));
        Check.wrongArgument("addStation(least)", () -> p.addStation(Integer.MIN_VALUE));
        Check.wrongArgument("addStation(greatest)", () -> p.addStation(Integer.MAX_VALUE));
        Check.due("none of these is there", 0, () -> p.count(1));
        for (int i = 0; i < 10; i++) {
            int number = i;
            Check.due("addStation", number, () -> p.addStation(number % 2 == 0 ? 0 : 4000));
        }
        Check.wrongState("the 11th station", () -> p.addStation(5));
        Check.wrongArgument("the 11th station, and too high", () -> p.addStation(4001));
        Check.due("count(1)", 10, () -> p.count(1));
    }

    private static void heights() {
        MountainPost p = Posts.heights(0, 4000, 17);
        Check.due("station(0, 0)", 0, () -> p.station(0, 0));
        Check.due("station(1, 0)", 4000, () -> p.station(1, 0));
        Check.due("station(2, 0)", 17, () -> p.station(2, 0));
        for (int what = 1; what <= 4; what++) {
            int w = what;
            Check.due("station(2, " + w + ")", 0, () -> p.station(2, w));
        }
        Check.outOfBounds("station(3, 0)", () -> p.station(3, 0));
        Check.outOfBounds("station(-1, 0)", () -> p.station(-1, 0));
        Check.outOfBounds("station(0, 5)", () -> p.station(0, 5));
        Check.outOfBounds("station(0, -1)", () -> p.station(0, -1));
    }

    private static void sight() {
        MountainPost p = Posts.heights(0, 0, 0, 0);
        Check.due("setSight(0, 1, true)", 1, () -> p.setSight(0, 1, true));
        Check.due("setSight(0, 1, true) again", 1, () -> p.setSight(0, 1, true));
        Check.due("setSight(2, 1, true)", 1, () -> p.setSight(2, 1, true));
        Check.due("station 1 sees both", 2, () -> p.station(1, 3));
        Check.due("setSight(1, 3, true)", 3, () -> p.setSight(1, 3, true));
        Check.due("setSight(1, 0, false)", 2, () -> p.setSight(1, 0, false));
        Check.due("station 0 sees none", 0, () -> p.station(0, 3));
        Check.due("setSight(0, 3, false)", 0, () -> p.setSight(0, 3, false));
        Check.due("fog hides nothing here", 1, () -> p.setFog(1, true));
        Check.due("station 1 sees two", 2, () -> p.station(1, 3));
        Check.outOfBounds("setSight(0, 4, true)", () -> p.setSight(0, 4, true));
        Check.outOfBounds("setSight(-1, 0, true)", () -> p.setSight(-1, 0, true));
        Check.outOfBounds("setSight(4, 4, true)", () -> p.setSight(4, 4, true));
        Check.wrongArgument("setSight(2, 2, true)", () -> p.setSight(2, 2, true));
        Check.wrongArgument("setSight(2, 2, false)", () -> p.setSight(2, 2, false));
    }

    private static void fog() {
        MountainPost p = Posts.heights(0, 0, 0);
        Check.due("setFog(0, false)", 0, () -> p.setFog(0, false));
        Check.due("setFog(1, true)", 1, () -> p.setFog(1, true));
        Check.due("setFog(1, true) again", 1, () -> p.setFog(1, true));
        Check.due("setFog(2, true)", 2, () -> p.setFog(2, true));
        Check.due("station(1, 4)", 1, () -> p.station(1, 4));
        Check.due("station(0, 4)", 0, () -> p.station(0, 4));
        Check.due("setFog(1, false)", 1, () -> p.setFog(1, false));
        Check.due("station(1, 4) then", 0, () -> p.station(1, 4));
        Check.outOfBounds("setFog(3, true)", () -> p.setFog(3, true));
        Check.outOfBounds("setFog(-1, false)", () -> p.setFog(-1, false));
    }

    private static void roads() {
        MountainPost p = Posts.heights(0, 0);
        Check.outOfBounds("build(0, 2, 1)", () -> p.build(0, 2, 1));
        Check.outOfBounds("build(-1, 0, 0)", () -> p.build(-1, 0, 0));
        Check.outOfBounds("build(2, 2, 1)", () -> p.build(2, 2, 1));
        Check.wrongArgument("build(1, 1, 1)", () -> p.build(1, 1, 1));
        Check.wrongArgument("build(0, 1, 0)", () -> p.build(0, 1, 0));
        Check.wrongArgument("build(0, 1, 21)", () -> p.build(0, 1, 21));
        for (int i = 0; i < 15; i++) {
            int number = i;
            Check.due("build", number, () -> p.build(number % 2, 1 - number % 2, number == 0 ? 20 : 1));
        }
        Check.wrongState("the 16th road", () -> p.build(0, 1, 1));
        Check.wrongArgument("the 16th road, and too long", () -> p.build(0, 1, 21));
        Check.outOfBounds("the 16th road, and to nowhere", () -> p.build(0, 2, 21));
        Check.due("count(2)", 15, () -> p.count(2));
        Check.due("road(1, 0)", 1, () -> p.road(1, 0));
        Check.due("road(1, 1)", 0, () -> p.road(1, 1));
        Check.outOfBounds("road(15, 0)", () -> p.road(15, 0));
        Check.outOfBounds("road(-1, 0)", () -> p.road(-1, 0));
        Check.outOfBounds("road(0, 6)", () -> p.road(0, 6));
        Check.outOfBounds("road(0, -1)", () -> p.road(0, -1));
    }

    private static void hoursOfRoads() {
        MountainPost p = Posts.heights(0, 199, 200, 4000, 3401);
        p.build(0, 1, 3);
        p.build(2, 0, 3);
        p.build(0, 3, 20);
        p.build(4, 3, 1);
        Check.due("199 metres up", 3, () -> p.road(0, 2));
        Check.due("199 metres down", 3, () -> p.road(0, 3));
        Check.due("200 metres down", 3, () -> p.road(1, 2));
        Check.due("200 metres up", 4, () -> p.road(1, 3));
        Check.due("4000 metres up", 40, () -> p.road(2, 2));
        Check.due("4000 metres down", 20, () -> p.road(2, 3));
        Check.due("599 metres up", 3, () -> p.road(3, 2));
    }

    private static void mules() {
        MountainPost p = Posts.heights(0, 0);
        Check.outOfBounds("addMule(0, 1, true)", () -> p.addMule(0, 1, true));
        p.build(0, 1, 1);
        Check.outOfBounds("addMule(1, 9, true)", () -> p.addMule(1, 9, true));
        Check.outOfBounds("addMule(-1, 1, true)", () -> p.addMule(-1, 1, true));
        Check.wrongArgument("addMule(0, 0, true)", () -> p.addMule(0, 0, true));
        Check.wrongArgument("addMule(0, 7, true)", () -> p.addMule(0, 7, true));
        for (int i = 0; i < 12; i++) {
            int number = i;
            Check.due("addMule", number, () -> p.addMule(0, 1 + number % 6, number < 5));
        }
        Check.wrongState("the 13th mule", () -> p.addMule(0, 1, true));
        Check.wrongArgument("the 13th mule, and no load", () -> p.addMule(0, 0, true));
        Check.outOfBounds("the 13th mule, and no road", () -> p.addMule(2, 0, true));
        Check.due("count(3)", 12, () -> p.count(3));
        Check.due("mules at a", 7, () -> p.station(0, 2));
        Check.due("mules at b", 5, () -> p.station(1, 2));
        Check.due("mules of the road", 12, () -> p.road(0, 4));
        Check.due("mules on their way", 0, () -> p.road(0, 5));
    }

    private static void whatMulesTell() {
        MountainPost p = Posts.heights(0, 400);
        p.build(0, 1, 3);
        p.build(0, 1, 20);
        p.addMule(1, 1, true);
        p.addMule(0, 4, false);
        p.post(0, 1, 0);
        tells(p, 0, 1, 1, 1, 0, 0, 0);
        tells(p, 1, 0, 4, 0, 0, 0, 0);
        p.pass(1);
        tells(p, 0, 1, 1, 1, 0, 0, 0);
        tells(p, 1, 0, 4, 1, 5, 1, 0);
        Check.due("a mule on its way stands nowhere: station(1, 2)", 1, () -> p.station(1, 2));
        Check.due("station(0, 2)", 0, () -> p.station(0, 2));
        Check.due("road(0, 5)", 1, () -> p.road(0, 5));
        Check.due("road(1, 5)", 0, () -> p.road(1, 5));
        p.pass(4);
        tells(p, 1, 0, 4, 1, 1, 1, 4);
        p.pass(1);
        tells(p, 1, 0, 4, 1, 0, 0, 5);
        Check.due("station(1, 2) then", 2, () -> p.station(1, 2));
        p.pass(9);
        tells(p, 1, 0, 4, 1, 0, 0, 5);
        Check.outOfBounds("mule(2, 0)", () -> p.mule(2, 0));
        Check.outOfBounds("mule(-1, 0)", () -> p.mule(-1, 0));
        Check.outOfBounds("mule(0, 6)", () -> p.mule(0, 6));
        Check.outOfBounds("mule(0, -1)", () -> p.mule(0, -1));
    }

    private static void tells(MountainPost p, int mule, int... due) {
        for (int what = 0; what < due.length; what++) {
            int w = what;
            Check.due("mule(" + mule + ", " + w + ") at hour " + p.count(0), due[w], () -> p.mule(mule, w));
        }
    }

    private static void wrongCallsChangeNothing() {
        MountainPost p = Posts.heights(0, 300, 900);
        p.build(0, 1, 1);
        p.addMule(0, 1, false);
        long before = p.digest();
        Check.wrongArgument("addStation(-5)", () -> p.addStation(-5));
        Check.wrongArgument("setSight(1, 1, true)", () -> p.setSight(1, 1, true));
        Check.outOfBounds("setSight(1, 3, true)", () -> p.setSight(1, 3, true));
        Check.outOfBounds("setFog(3, true)", () -> p.setFog(3, true));
        Check.wrongArgument("build(0, 2, 30)", () -> p.build(0, 2, 30));
        Check.wrongArgument("addMule(0, 7, false)", () -> p.addMule(0, 7, false));
        Check.due("digest()", before, p::digest);
    }
}
