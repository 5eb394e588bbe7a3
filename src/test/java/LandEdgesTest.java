/** Promises 1 to 9: each sentence of the document that names a boundary case has a test here. */
final class LandEdgesTest {
    private LandEdgesTest() {
    }

    public static void main(String[] args) {
        aNewObject();
        theHourBeginsAt0();
        nothingIsThereToAskFor();
        tenStations();
        theEleventhStation();
        aHeightTooSmallOrTooLarge();
        noSightAtFirst();
        noFogAtFirst();
        sightIsOfBoth();
        stationsThatTheFirstOneSees();
        sightOfNoStation();
        sightOfOneStation();
        stationsWithFog();
        fogOverNoStation();
        fifteenRoads();
        theSixteenthRoad();
        severalRoadsBetweenTheSame();
        roadsFromNoStation();
        aRoadToItself();
        aLengthTooSmallOrTooLarge();
        hoursUphill();
        theLongestRoad();
        theShortestRoad();
        twelveMules();
        theThirteenthMule();
        aMuleOfNoRoad();
        aLoadTooSmallOrTooLarge();
        whereAMuleIsAtFirst();
        aMuleOnItsWayIsAtNoStation();
        stationsOutside();
        whatAStationTells();
        lettersThatWaitThere();
        roadsOutside();
        mulesOnTheirWayOnARoad();
        mulesOutside();
        hoursUntilAMuleIsThere();
        hoursThatAMuleHadLess();
        Check.end();
    }

    // ---- promise 1

    private static void aNewObject() {
        Check.sentence("Creates a land without stations");
        MountainPost p = new MountainPost();
        for (int what = 1; what <= 9; what++) {
            int w = what;
            Check.due("count(" + w + ")", 0, () -> p.count(w));
        }
        p.addStation(7);
        MountainPost q = new MountainPost();
        Check.due("count(1) of another new one", 0, () -> q.count(1));
        Check.due("the first one keeps its own", 1, () -> p.count(1));
    }

    private static void theHourBeginsAt0() {
        Check.sentence("at the hour 0");
        MountainPost p = new MountainPost();
        Check.due("count(0)", 0, () -> p.count(0));
        p.pass(1);
        MountainPost q = new MountainPost();
        Check.due("count(0) of another new one", 0, () -> q.count(0));
    }

    private static void nothingIsThereToAskFor() {
        Check.sentence("if there is no such station");
        MountainPost p = new MountainPost();
        Check.outOfBounds("setSight(0, 1, true)", () -> p.setSight(0, 1, true));
        Check.outOfBounds("setSight(0, 0, true)", () -> p.setSight(0, 0, true));
        Check.outOfBounds("setFog(0, true)", () -> p.setFog(0, true));
        Check.outOfBounds("build(0, 1, 1)", () -> p.build(0, 1, 1));
        Check.outOfBounds("addMule(0, 1, false)", () -> p.addMule(0, 1, false));
        Check.outOfBounds("station(0, 0)", () -> p.station(0, 0));
        Check.outOfBounds("road(0, 0)", () -> p.road(0, 0));
        Check.outOfBounds("mule(0, 0)", () -> p.mule(0, 0));
        Check.outOfBounds("post(0, 1, 0)", () -> p.post(0, 1, 0));
        Check.outOfBounds("recall(0)", () -> p.recall(0));
        Check.outOfBounds("letter(0, 0)", () -> p.letter(0, 0));
        Check.outOfBounds("way(0, 0, 0)", () -> p.way(0, 0, 0));
        Check.outOfBounds("fire(0, 0)", () -> p.fire(0, 0));
        Check.outOfBounds("foresee(0, 0)", () -> p.foresee(0, 0));
        Check.outOfBounds("arrives(0)", () -> p.arrives(0));
    }

    // ---- promise 2

    private static void tenStations() {
        Check.sentence("There are at most 10, numbered from 0 in the order of their building");
        MountainPost p = new MountainPost();
        for (int s = 0; s < 10; s++) {
            int number = s;
            Check.due("addStation(" + 11 * number + ")", number, () -> p.addStation(11 * number));
        }
        for (int s = 0; s < 10; s++) {
            int number = s;
            Check.due("station(" + number + ", 0)", 11 * number, () -> p.station(number, 0));
        }
    }

    private static void theEleventhStation() {
        Check.sentence("Throws `IllegalStateException` if there are 10");
        MountainPost p = Posts.level(9);
        Check.due("the tenth", 9, () -> p.addStation(1));
        Check.wrongState("the eleventh", () -> p.addStation(1));
        Check.wrongState("and again", () -> p.addStation(4000));
        Check.due("count(1)", 10, () -> p.count(1));
        Check.due("the tenth keeps its height", 1, () -> p.station(9, 0));
    }

    private static void aHeightTooSmallOrTooLarge() {
        Check.sentence("Throws `IllegalArgumentException` if height is not 0 to 4000");
        MountainPost p = new MountainPost();
        for (int height : Check.outside(0, 4000)) {
            Check.wrongArgument("addStation(" + height + ")", () -> p.addStation(height));
        }
        Check.due("the least", 0, () -> p.addStation(0));
        Check.due("the greatest", 1, () -> p.addStation(4000));
        Check.due("station(0, 0)", 0, () -> p.station(0, 0));
        Check.due("station(1, 0)", 4000, () -> p.station(1, 0));
    }

    // ---- promises 3 and 4

    private static void noSightAtFirst() {
        Check.sentence("Two stations see each other, or not (not, at first).");
        MountainPost p = Posts.level(10);
        for (int s = 0; s < 10; s++) {
            int number = s;
            Check.due("station(" + number + ", 3)", 0, () -> p.station(number, 3));
            Check.due("setSight(" + number + ", .., false)", 0, () -> p.setSight(number, (number + 1) % 10, false));
        }
        Check.due("fire(0, 9)", -1, () -> p.fire(0, 9));
    }

    private static void noFogAtFirst() {
        Check.sentence("There is fog over a station, or not (not, at first).");
        MountainPost p = Posts.level(10);
        for (int s = 0; s < 10; s++) {
            int number = s;
            Check.due("station(" + number + ", 4)", 0, () -> p.station(number, 4));
            Check.due("setFog(" + number + ", false)", 0, () -> p.setFog(number, false));
        }
    }

    private static void sightIsOfBoth() {
        Check.sentence("Tells whether two stations see each other.");
        MountainPost p = Posts.level(3);
        p.setSight(2, 0, true);
        Check.due("station(0, 3)", 1, () -> p.station(0, 3));
        Check.due("station(2, 3)", 1, () -> p.station(2, 3));
        Check.due("station(1, 3)", 0, () -> p.station(1, 3));
        Check.due("fire(0, 2)", 1, () -> p.fire(0, 2));
        p.setSight(0, 2, false);
        Check.due("station(0, 3) then", 0, () -> p.station(0, 3));
        Check.due("station(2, 3) then", 0, () -> p.station(2, 3));
    }

    private static void stationsThatTheFirstOneSees() {
        Check.sentence("Returns how many stations the first one sees then.");
        MountainPost p = Posts.level(10);
        for (int s = 1; s < 10; s++) {
            int other = s;
            Check.due("setSight(0, " + other + ", true)", other, () -> p.setSight(0, other, true));
            Check.due("it sees it already", other, () -> p.setSight(0, other, true));
            Check.due("the other one sees only this one", 1, () -> p.setSight(other, 0, true));
        }
        for (int s = 1; s < 10; s++) {
            int other = s;
            Check.due("setSight(0, " + other + ", false)", 9 - other, () -> p.setSight(0, other, false));
            Check.due("it does not see it already", 9 - other, () -> p.setSight(0, other, false));
        }
    }

    private static void sightOfNoStation() {
        Check.sentence("setSight: Throws `IndexOutOfBoundsException` if there is no such station");
        MountainPost p = Posts.level(3);
        for (int station : Check.outside(0, 2)) {
            Check.outOfBounds("setSight(" + station + ", 0, true)", () -> p.setSight(station, 0, true));
            Check.outOfBounds("setSight(0, " + station + ", true)", () -> p.setSight(0, station, true));
        }
        Check.due("setSight(2, 0, true)", 1, () -> p.setSight(2, 0, true));
    }

    private static void sightOfOneStation() {
        Check.sentence("setSight: Throws `IllegalArgumentException` if both are the same");
        MountainPost p = Posts.level(3);
        for (int s = 0; s < 3; s++) {
            int station = s;
            Check.wrongArgument("both " + station + ", true", () -> p.setSight(station, station, true));
            Check.wrongArgument("both " + station + ", false", () -> p.setSight(station, station, false));
            Check.due("station(" + station + ", 3)", 0, () -> p.station(station, 3));
        }
    }

    private static void stationsWithFog() {
        Check.sentence("Returns how many stations have fog then.");
        MountainPost p = Posts.level(10);
        for (int s = 0; s < 10; s++) {
            int station = s;
            Check.due("setFog(" + station + ", true)", station + 1, () -> p.setFog(station, true));
            Check.due("there is fog already", station + 1, () -> p.setFog(station, true));
        }
        for (int s = 0; s < 10; s++) {
            int station = s;
            Check.due("setFog(" + station + ", false)", 9 - station, () -> p.setFog(station, false));
            Check.due("there is none already", 9 - station, () -> p.setFog(station, false));
        }
    }

    private static void fogOverNoStation() {
        Check.sentence("setFog: Throws `IndexOutOfBoundsException` if there is no such station");
        MountainPost p = Posts.level(3);
        for (int station : Check.outside(0, 2)) {
            Check.outOfBounds("setFog(" + station + ", true)", () -> p.setFog(station, true));
            Check.outOfBounds("setFog(" + station + ", false)", () -> p.setFog(station, false));
        }
        Check.due("setFog(0, true)", 1, () -> p.setFog(0, true));
        Check.due("setFog(2, true)", 2, () -> p.setFog(2, true));
    }

    // ---- promise 5

    private static void fifteenRoads() {
        Check.sentence("There are at most 15, numbered likewise");
        MountainPost p = Posts.level(10);
        for (int r = 0; r < 15; r++) {
            int number = r;
            Check.due("build", number, () -> p.build(number % 10, (number + 1) % 10, number + 1));
        }
        for (int r = 0; r < 15; r++) {
            int number = r;
            Check.due("road(" + number + ", 0)", number % 10, () -> p.road(number, 0));
            Check.due("road(" + number + ", 1)", (number + 1) % 10, () -> p.road(number, 1));
            Check.due("road(" + number + ", 2)", number + 1, () -> p.road(number, 2));
        }
    }

    private static void theSixteenthRoad() {
        Check.sentence("Throws `IllegalStateException` if there are 15");
        MountainPost p = Posts.level(2);
        for (int r = 0; r < 14; r++) {
            p.build(0, 1, 1);
        }
        Check.due("the fifteenth", 14, () -> p.build(0, 1, 2));
        Check.wrongState("the sixteenth", () -> p.build(0, 1, 3));
        Check.wrongState("and again", () -> p.build(1, 0, 20));
        Check.due("count(2)", 15, () -> p.count(2));
        Check.due("the fifteenth keeps its length", 2, () -> p.road(14, 2));
    }

    private static void severalRoadsBetweenTheSame() {
        Check.sentence("there can be several between the same ones");
        MountainPost p = Posts.level(2);
        Check.due("build(0, 1, 3)", 0, () -> p.build(0, 1, 3));
        Check.due("build(0, 1, 3) again", 1, () -> p.build(0, 1, 3));
        Check.due("build(1, 0, 4)", 2, () -> p.build(1, 0, 4));
        Check.due("road(1, 0)", 0, () -> p.road(1, 0));
        Check.due("road(2, 0)", 1, () -> p.road(2, 0));
        p.addMule(1, 1, false);
        Check.due("each has its own mules: road(0, 4)", 0, () -> p.road(0, 4));
        Check.due("road(1, 4)", 1, () -> p.road(1, 4));
    }

    private static void roadsFromNoStation() {
        Check.sentence("build: Throws `IndexOutOfBoundsException` if there is no such station");
        MountainPost p = Posts.level(2);
        for (int station : Check.outside(0, 1)) {
            Check.outOfBounds("build(" + station + ", 0, 1)", () -> p.build(station, 0, 1));
            Check.outOfBounds("build(0, " + station + ", 1)", () -> p.build(0, station, 1));
        }
        Check.due("build(1, 0, 1)", 0, () -> p.build(1, 0, 1));
    }

    private static void aRoadToItself() {
        Check.sentence("build: Throws `IllegalArgumentException` if both are the same");
        MountainPost p = Posts.level(2);
        Check.wrongArgument("build(0, 0, 1)", () -> p.build(0, 0, 1));
        Check.wrongArgument("build(1, 1, 20)", () -> p.build(1, 1, 20));
        Check.due("count(2)", 0, () -> p.count(2));
    }

    private static void aLengthTooSmallOrTooLarge() {
        Check.sentence("or length is not 1 to 20");
        MountainPost p = Posts.level(2);
        for (int length : Check.outside(1, 20)) {
            Check.wrongArgument("build(0, 1, " + length + ")", () -> p.build(0, 1, length));
        }
        Check.due("count(2)", 0, () -> p.count(2));
        Check.due("the least", 0, () -> p.build(0, 1, 1));
        Check.due("the greatest", 1, () -> p.build(0, 1, 20));
    }

    private static void hoursUphill() {
        Check.sentence("(the height of the other end less that of this end) / 200 more, if the other end is higher");
        climb(100, 100, 0, 0);
        climb(100, 101, 0, 0);
        climb(0, 199, 0, 0);
        climb(0, 200, 1, 0);
        climb(0, 399, 1, 0);
        climb(0, 400, 2, 0);
        climb(199, 398, 0, 0);
        climb(201, 400, 0, 0);
        climb(199, 399, 1, 0);
        climb(0, 3999, 19, 0);
        climb(0, 4000, 20, 0);
        climb(4000, 0, 0, 20);
        climb(1200, 1000, 0, 1);
    }

    private static void climb(int heightOfA, int heightOfB, int moreToB, int moreToA) {
        MountainPost p = Posts.heights(heightOfA, heightOfB);
        p.build(0, 1, 7);
        String road = "from " + heightOfA + " to " + heightOfB;
        Check.due(road + ": road(0, 2)", 7 + moreToB, () -> p.road(0, 2));
        Check.due(road + ": road(0, 3)", 7 + moreToA, () -> p.road(0, 3));
        p.addMule(0, 1, false);
        Check.due(road + ": way(0, 1, 0)", 7 + moreToB, () -> p.way(0, 1, 0));
        Check.due(road + ": way(1, 0, 0)", 7 + moreToA, () -> p.way(1, 0, 0));
        p.post(0, 1, 0);
        Check.due(road + ": arrives(0)", 7 + moreToB, () -> p.arrives(0));
    }

    private static void theLongestRoad() {
        Check.sentence("it takes as many hours as the length, and");
        MountainPost p = Posts.heights(0, 4000);
        p.build(0, 1, 20);
        p.addMule(0, 1, false);
        p.post(0, 1, 0);
        Check.due("pass(40)", 0, () -> p.pass(40));
        Check.due("mule(0, 3) in the hour 39", 1, () -> p.mule(0, 3));
        Check.due("pass(1)", 1, () -> p.pass(1));
        Check.due("letter(0, 9)", 40, () -> p.letter(0, 9));
    }

    private static void theShortestRoad() {
        Check.sentence("has a length, 1 to 20");
        MountainPost p = Posts.heights(4000, 0);
        p.build(0, 1, 1);
        p.addMule(0, 1, false);
        p.post(0, 1, 0);
        Check.due("pass(1)", 0, () -> p.pass(1));
        Check.due("pass(1) more", 1, () -> p.pass(1));
        Check.due("letter(0, 9)", 1, () -> p.letter(0, 9));
    }

    // ---- promise 6

    private static void twelveMules() {
        Check.sentence("There are at most 12, numbered likewise");
        MountainPost p = Posts.level(2);
        for (int r = 0; r < 12; r++) {
            p.build(0, 1, 1 + r);
        }
        for (int m = 0; m < 12; m++) {
            int number = m;
            Check.due("addMule", number, () -> p.addMule(11 - number, 1 + number % 6, false));
        }
        for (int m = 0; m < 12; m++) {
            int number = m;
            Check.due("mule(" + number + ", 0)", 11 - number, () -> p.mule(number, 0));
            Check.due("mule(" + number + ", 1)", 1 + number % 6, () -> p.mule(number, 1));
        }
    }

    private static void theThirteenthMule() {
        Check.sentence("Throws `IllegalStateException` if there are 12");
        MountainPost p = Posts.road(1);
        for (int m = 0; m < 11; m++) {
            p.addMule(0, 1, false);
        }
        Check.due("the twelfth", 11, () -> p.addMule(0, 6, true));
        Check.wrongState("the thirteenth", () -> p.addMule(0, 1, false));
        Check.wrongState("and again", () -> p.addMule(0, 6, true));
        Check.due("count(3)", 12, () -> p.count(3));
        Check.due("road(0, 4)", 12, () -> p.road(0, 4));
        Check.due("the twelfth keeps its load", 6, () -> p.mule(11, 1));
    }

    private static void aMuleOfNoRoad() {
        Check.sentence("addMule: Throws `IndexOutOfBoundsException` if there is no such road");
        MountainPost p = Posts.road(1);
        p.build(1, 0, 1);
        for (int road : Check.outside(0, 1)) {
            Check.outOfBounds("addMule(" + road + ", 1, true)", () -> p.addMule(road, 1, true));
        }
        Check.due("count(3)", 0, () -> p.count(3));
        Check.due("addMule(1, 1, true)", 0, () -> p.addMule(1, 1, true));
        Check.due("addMule(0, 1, true)", 1, () -> p.addMule(0, 1, true));
    }

    private static void aLoadTooSmallOrTooLarge() {
        Check.sentence("Throws `IllegalArgumentException` if load is not 1 to 6");
        MountainPost p = Posts.road(1);
        for (int load : Check.outside(1, 6)) {
            Check.wrongArgument("addMule(0, " + load + ", false)", () -> p.addMule(0, load, false));
        }
        Check.due("count(3)", 0, () -> p.count(3));
        Check.due("the least", 0, () -> p.addMule(0, 1, false));
        Check.due("the greatest", 1, () -> p.addMule(0, 6, false));
    }

    private static void whereAMuleIsAtFirst() {
        Check.sentence("whether it is at the end b, otherwise at the end a");
        MountainPost p = Posts.level(3);
        p.build(2, 1, 5);
        p.addMule(0, 1, true);
        p.addMule(0, 1, false);
        Check.due("mule(0, 2)", 1, () -> p.mule(0, 2));
        Check.due("mule(1, 2)", 2, () -> p.mule(1, 2));
        Check.due("mule(0, 3)", 0, () -> p.mule(0, 3));
        Check.due("mule(1, 3)", 0, () -> p.mule(1, 3));
    }

    private static void aMuleOnItsWayIsAtNoStation() {
        Check.sentence("It is at one of the ends of its road, or on its way to one for some hours yet.");
        MountainPost p = Posts.line(2);
        p.post(0, 1, 0);
        Check.due("ahead: station(0, 2)", 1, () -> p.station(0, 2));
        p.pass(1);
        Check.due("on its way: station(0, 2)", 0, () -> p.station(0, 2));
        Check.due("on its way: station(1, 2)", 0, () -> p.station(1, 2));
        p.pass(1);
        Check.due("one hour yet: station(1, 2)", 0, () -> p.station(1, 2));
        p.pass(1);
        Check.due("there: station(1, 2)", 1, () -> p.station(1, 2));
    }

    // ---- promises 7 to 9

    private static void stationsOutside() {
        Check.sentence("if there is no such station, or what is not 0 to 4");
        MountainPost p = Posts.level(3);
        for (int station : Check.outside(0, 2)) {
            for (int what = 0; what <= 4; what++) {
                int w = what;
                Check.outOfBounds("station(" + station + ", " + w + ")", () -> p.station(station, w));
            }
        }
        for (int what : Check.outside(0, 4)) {
            Check.outOfBounds("station(0, " + what + ")", () -> p.station(0, what));
        }
        Check.due("station(2, 4)", 0, () -> p.station(2, 4));
    }

    private static void whatAStationTells() {
        Check.sentence("4 1 if it has fog, else 0");
        MountainPost p = Posts.heights(1234, 5);
        p.setFog(0, true);
        p.setSight(0, 1, true);
        Check.due("station(0, 0)", 1234, () -> p.station(0, 0));
        Check.due("station(0, 3): fog hides no sight here", 1, () -> p.station(0, 3));
        Check.due("station(0, 4)", 1, () -> p.station(0, 4));
        Check.due("station(1, 4)", 0, () -> p.station(1, 4));
    }

    private static void lettersThatWaitThere() {
        Check.sentence("1 letters that wait there");
        MountainPost p = Posts.level(2);
        Posts.post(p, 60, 1, 0);
        Check.due("all: station(1, 1)", 60, () -> p.station(1, 1));
        Check.due("none: station(0, 1)", 0, () -> p.station(0, 1));
        p.recall(0);
        p.pass(1);
        Check.due("one that is back does not wait: station(1, 1)", 59, () -> p.station(1, 1));
        p.build(0, 1, 1);
        p.addMule(0, 3, true);
        p.pass(1);
        Check.due("those with a mule do not wait: station(1, 1)", 56, () -> p.station(1, 1));
        p.pass(1);
        Check.due("those that have come do not wait: station(0, 1)", 0, () -> p.station(0, 1));
    }

    private static void roadsOutside() {
        Check.sentence("if there is no such road, or what is not 0 to 5");
        MountainPost p = Posts.road(3);
        for (int road : Check.outside(0, 0)) {
            for (int what = 0; what <= 5; what++) {
                int w = what;
                Check.outOfBounds("road(" + road + ", " + w + ")", () -> p.road(road, w));
            }
        }
        for (int what : Check.outside(0, 5)) {
            Check.outOfBounds("road(0, " + what + ")", () -> p.road(0, what));
        }
        Check.due("road(0, 5)", 0, () -> p.road(0, 5));
    }

    private static void mulesOnTheirWayOnARoad() {
        Check.sentence("4 its mules, 5 mules on their way on it");
        MountainPost p = Posts.road(2);
        p.build(1, 0, 2);
        Check.due("without mules: road(0, 4)", 0, () -> p.road(0, 4));
        for (int m = 0; m < 11; m++) {
            p.addMule(0, 1, m % 2 == 0);
        }
        p.addMule(1, 1, false);
        Posts.post(p, 5, 0, 1);
        Posts.post(p, 6, 1, 0);
        Check.due("none is on its way: road(0, 5)", 0, () -> p.road(0, 5));
        p.pass(1);
        Check.due("in both directions: road(0, 5)", 11, () -> p.road(0, 5));
        Check.due("road(0, 4)", 11, () -> p.road(0, 4));
        Check.due("road(1, 5)", 0, () -> p.road(1, 5));
        Check.due("road(1, 4)", 1, () -> p.road(1, 4));
        p.pass(2);
        Check.due("all are there: road(0, 5)", 0, () -> p.road(0, 5));
    }

    private static void mulesOutside() {
        Check.sentence("if there is no such mule, or what is not 0 to 5");
        MountainPost p = Posts.line(3);
        for (int mule : Check.outside(0, 1)) {
            for (int what = 0; what <= 5; what++) {
                int w = what;
                Check.outOfBounds("mule(" + mule + ", " + w + ")", () -> p.mule(mule, w));
            }
        }
        for (int what : Check.outside(0, 5)) {
            Check.outOfBounds("mule(0, " + what + ")", () -> p.mule(0, what));
        }
        Check.due("mule(1, 5)", 0, () -> p.mule(1, 5));
    }

    private static void hoursUntilAMuleIsThere() {
        Check.sentence("3 the hours until then, 0 if it is there");
        MountainPost p = Posts.road(3);
        p.addMule(0, 1, false);
        p.post(0, 1, 0);
        int[] due = {0, 3, 2, 1, 0, 0};
        for (int hour = 0; hour < due.length; hour++) {
            int place = hour == 0 ? 0 : 1;
            int left = due[hour];
            Check.due("mule(0, 3) at the hour " + hour, left, () -> p.mule(0, 3));
            Check.due("mule(0, 2) at the hour " + hour, place, () -> p.mule(0, 2));
            p.pass(1);
        }
    }

    private static void hoursThatAMuleHadLess() {
        Check.sentence("5 the hours that it had less in step 1, in all");
        MountainPost p = Posts.heights(0, 200);
        p.build(0, 1, 1);
        p.addMule(0, 6, false);
        p.addMule(0, 1, false);
        p.post(0, 1, 0);
        p.pass(1);
        Check.due("it has set out: mule(0, 5)", 0, () -> p.mule(0, 5));
        p.pass(1);
        Check.due("an hour less: mule(0, 5)", 1, () -> p.mule(0, 5));
        p.pass(50);
        Check.due("uphill, and no more while it stays: mule(0, 5)", 2, () -> p.mule(0, 5));
        p.post(1, 0, 0);
        p.pass(50);
        Check.due("and downhill: mule(0, 5)", 3, () -> p.mule(0, 5));
    }
}
