/** Promises 13 and 14, and steps 1, 3 and 4 of an hour: each sentence that names a boundary case has a test here. */
final class HoursEdgesTest {
    private HoursEdgesTest() {
    }

    public static void main(String[] args) {
        hoursTooFewOrTooMany();
        hoursInAnEmptyLand();
        howManyHaveComeInThem();
        countOfNothing();
        countsOfAFullLand();
        eachStateIsCounted();
        anHourLess();
        allItsLettersAreThere();
        othersWaitThere();
        mulesByTheirNumbers();
        theFirstRoadAndNoOther();
        mostUrgentFirst();
        ofTheSameTheSmallestNumbers();
        atMostItsLoad();
        aLoadOfOne();
        itSetsOutIfItHasLetters();
        itSetsOutForALetterAtTheOtherEnd();
        otherwiseItStays();
        itStaysForALetterByAnotherRoad();
        itStaysForALetterThatAnotherOneTook();
        itGoesAtOnceAgain();
        crossesOfEachWithEach();
        crossesWithEachMule();
        noCrossWithoutLetters();
        noCrossWithOneThatIsThere();
        crossInTheSameHour();
        noCrossInTheSameDirection();
        noCrossOnAnotherRoad();
        bothMustBeAnswers();
        noCrossOfOneThatTurnedWithTheNextOne();
        crossOfAnswersThatTurned();
        theHourIsOneGreater();
        Check.end();
    }

    // ---- promises 13 and 14

    private static void hoursTooFewOrTooMany() {
        Check.sentence("pass: Throws `IllegalArgumentException` if hours is not 1 to 100");
        MountainPost p = Posts.line(2);
        for (int hours : Check.outside(1, 100)) {
            Check.wrongArgument("pass(" + hours + ")", () -> p.pass(hours));
        }
        Check.due("count(0)", 0, () -> p.count(0));
        Check.due("the least", 0, () -> p.pass(1));
        Check.due("count(0) then", 1, () -> p.count(0));
        Check.due("the most", 0, () -> p.pass(100));
        Check.due("count(0) in the end", 101, () -> p.count(0));
    }

    private static void hoursInAnEmptyLand() {
        Check.sentence("Lets hours go by.");
        MountainPost p = new MountainPost();
        Check.due("pass(100)", 0, () -> p.pass(100));
        Check.due("count(0)", 100, () -> p.count(0));
    }

    private static void howManyHaveComeInThem() {
        Check.sentence("Returns how many letters have come in them.");
        MountainPost p = Posts.line(2);
        Posts.post(p, 60, 0, 1);
        p.recall(59);
        Check.due("on their way", 0, () -> p.pass(2));
        Check.due("the first six", 6, () -> p.pass(1));
        Check.due("those came ahead of them", 0, () -> p.pass(3));
        Check.due("all others but the one that is back", 53, () -> p.pass(100));
        Check.due("none is left", 0, () -> p.pass(100));
        Check.due("count(8)", 1, () -> p.count(8));
    }

    private static void countOfNothing() {
        Check.sentence("if what is not 0 to 9");
        MountainPost p = Posts.line(2);
        for (int what : Check.outside(0, 9)) {
            Check.outOfBounds("count(" + what + ")", () -> p.count(what));
        }
        Check.due("count(0)", 0, () -> p.count(0));
        Check.due("count(9)", 0, () -> p.count(9));
    }

    private static void countsOfAFullLand() {
        Check.sentence("0 the hour, 1 stations, 2 roads, 3 mules, 4 letters, 5 those that wait");
        MountainPost p = Posts.full();
        int[] due = {0, 10, 15, 12, 60, 60, 0, 0, 0, 0};
        for (int what = 0; what < due.length; what++) {
            int w = what;
            Check.due("count(" + w + ")", due[w], () -> p.count(w));
        }
    }

    private static void eachStateIsCounted() {
        Check.sentence("5 those that wait, 6 those with mules, 7 those that have come, 8 those that are back");
        MountainPost p = Posts.line(2);
        Posts.post(p, 8, 0, 1);
        p.recall(7);
        countsAre(p, 8, 0, 0, 0);
        p.pass(1);
        countsAre(p, 1, 6, 0, 1);
        p.pass(2);
        countsAre(p, 1, 0, 6, 1);
        p.pass(2);
        countsAre(p, 0, 1, 6, 1);
        p.pass(2);
        countsAre(p, 0, 0, 7, 1);
    }

    private static void countsAre(MountainPost p, int... due) {
        for (int i = 0; i < due.length; i++) {
            int n = due[i];
            int what = 5 + i;
            Check.due("count(" + what + ") at the hour " + p.count(0), n, () -> p.count(what));
        }
    }

    // ---- step 1

    private static void anHourLess() {
        Check.sentence("each has an hour less; if none is left, it is at that end of its road");
        MountainPost p = Posts.road(1);
        p.build(0, 1, 2);
        p.addMule(0, 1, true);
        p.addMule(1, 1, false);
        p.post(1, 0, 0);
        p.pass(1);
        Check.due("the other one stays: mule(1, 3)", 0, () -> p.mule(1, 3));
        Check.due("one hour: mule(0, 3)", 1, () -> p.mule(0, 3));
        p.pass(1);
        Check.due("none is left: mule(0, 3)", 0, () -> p.mule(0, 3));
        Check.due("it is there: station(0, 2)", 2, () -> p.station(0, 2));
        p.pass(1);
        Check.due("and stays: mule(0, 5)", 1, () -> p.mule(0, 5));
        Check.due("the other one had none: mule(1, 5)", 0, () -> p.mule(1, 5));
    }

    private static void allItsLettersAreThere() {
        Check.sentence("and all its letters are there");
        MountainPost p = Posts.line(2);
        Posts.post(p, 6, 0, 1);
        p.pass(2);
        Check.due("mule(0, 4)", 6, () -> p.mule(0, 4));
        Check.due("pass(1)", 6, () -> p.pass(1));
        Check.due("mule(0, 4) then", 0, () -> p.mule(0, 4));
        for (int l = 0; l < 6; l++) {
            int letter = l;
            Check.due("letter(" + letter + ", 4)", 1, () -> p.letter(letter, 4));
        }
    }

    private static void othersWaitThere() {
        Check.sentence("others wait there");
        MountainPost p = Posts.level(3);
        p.build(0, 1, 2);
        p.addMule(0, 6, false);
        p.build(1, 2, 20);
        p.addMule(1, 6, true);
        p.post(0, 1, 0);
        p.post(0, 2, 0);
        Check.due("pass(3)", 1, () -> p.pass(3));
        Check.due("it has come: letter(0, 3)", 2, () -> p.letter(0, 3));
        Check.due("it waits: letter(1, 3)", 0, () -> p.letter(1, 3));
        Check.due("letter(1, 4)", 1, () -> p.letter(1, 4));
        Check.due("station(1, 1)", 1, () -> p.station(1, 1));
    }

    // ---- step 3

    private static void mulesByTheirNumbers() {
        Check.sentence("Mules at the ends of their roads, by their numbers");
        MountainPost p = Posts.road(3);
        for (int m = 0; m < 3; m++) {
            p.addMule(0, 1, false);
        }
        p.post(0, 1, 2);
        p.post(0, 1, 9);
        p.post(0, 1, 5);
        p.pass(1);
        Check.due("letter(1, 5)", 0, () -> p.letter(1, 5));
        Check.due("letter(2, 5)", 1, () -> p.letter(2, 5));
        Check.due("letter(0, 5)", 2, () -> p.letter(0, 5));
    }

    private static void theFirstRoadAndNoOther() {
        Check.sentence("go by its road (it is the first road from there to where the letter goes)");
        MountainPost p = Posts.road(3);
        p.build(0, 1, 3);
        p.addMule(1, 6, false);
        p.addMule(0, 1, false);
        p.post(0, 1, 0);
        p.post(0, 1, 0);
        p.pass(1);
        Check.due("the mule of the road 0 has one", 1, () -> p.mule(1, 4));
        Check.due("the other one waits for it: letter(1, 3)", 0, () -> p.letter(1, 3));
        Check.due("though a mule with room is there: mule(0, 3)", 0, () -> p.mule(0, 3));
    }

    private static void mostUrgentFirst() {
        Check.sentence("the most urgent ones first");
        MountainPost p = Posts.road(1);
        p.addMule(0, 1, false);
        for (int urgency = 0; urgency <= 9; urgency++) {
            p.post(0, 1, urgency);
        }
        for (int urgency = 9; urgency >= 0; urgency--) {
            int letter = urgency;
            p.pass(1);
            Check.due("letter(" + letter + ", 5)", 0, () -> p.letter(letter, 5));
            Check.due("only one: mule(0, 4)", 1, () -> p.mule(0, 4));
            p.pass(1);
        }
    }

    private static void ofTheSameTheSmallestNumbers() {
        Check.sentence("of the same those with the smallest numbers");
        MountainPost p = Posts.road(1);
        p.addMule(0, 2, false);
        for (int l = 0; l < 60; l++) {
            p.post(0, 1, l < 30 ? 0 : 9);
        }
        for (int trip = 0; trip < 30; trip++) {
            int first = trip < 15 ? 30 + 2 * trip : 2 * trip - 30;
            p.pass(1);
            Check.due("letter(" + first + ", 5)", 0, () -> p.letter(first, 5));
            Check.due("letter(" + (first + 1) + ", 5)", 0, () -> p.letter(first + 1, 5));
            p.pass(1);
        }
        Check.due("count(7)", 60, () -> p.count(7));
    }

    private static void atMostItsLoad() {
        Check.sentence("at most its load");
        for (int n = 1; n <= 6; n++) {
            int load = n;
            MountainPost p = Posts.road(1);
            p.addMule(0, load, false);
            Posts.post(p, load - 1, 0, 1);
            p.pass(1);
            Check.due("fewer than its load", load - 1, () -> p.count(6));
            MountainPost q = Posts.road(1);
            q.addMule(0, load, false);
            Posts.post(q, load, 0, 1);
            q.pass(1);
            Check.due("its load", load, () -> q.count(6));
            MountainPost r = Posts.road(1);
            r.addMule(0, load, false);
            Posts.post(r, load + 1, 0, 1);
            r.pass(1);
            Check.due("more than its load", load, () -> r.count(6));
            Check.due("one is left", 1, () -> r.station(0, 1));
        }
    }

    private static void aLoadOfOne() {
        Check.sentence("carries a load of letters, 1 to 6 at most");
        MountainPost p = Posts.road(1);
        p.addMule(0, 1, false);
        Posts.post(p, 60, 0, 1);
        int[] due = {59, 59, 58, 58, 57};
        for (int hour = 0; hour < due.length; hour++) {
            int waiting = due[hour];
            p.pass(1);
            Check.due("station(0, 1) behind the hour " + hour, waiting, () -> p.station(0, 1));
        }
    }

    private static void itSetsOutIfItHasLetters() {
        Check.sentence("Then it sets out for the other end, if it has letters");
        MountainPost p = Posts.road(4);
        p.addMule(0, 6, true);
        p.post(1, 0, 0);
        p.pass(1);
        Check.due("mule(0, 2)", 0, () -> p.mule(0, 2));
        Check.due("mule(0, 3)", 4, () -> p.mule(0, 3));
        Check.due("mule(0, 4)", 1, () -> p.mule(0, 4));
    }

    private static void itSetsOutForALetterAtTheOtherEnd() {
        Check.sentence("or if a letter waits at the other end that goes by its road");
        MountainPost p = Posts.road(4);
        p.addMule(0, 6, true);
        p.post(0, 1, 0);
        p.pass(1);
        Check.due("mule(0, 2)", 0, () -> p.mule(0, 2));
        Check.due("mule(0, 3)", 4, () -> p.mule(0, 3));
        Check.due("without letters: mule(0, 4)", 0, () -> p.mule(0, 4));
        p.pass(4);
        Check.due("it takes it where it waited: mule(0, 4)", 1, () -> p.mule(0, 4));
    }

    private static void otherwiseItStays() {
        Check.sentence("otherwise it stays");
        MountainPost p = Posts.line(2);
        p.addMule(0, 1, true);
        p.pass(100);
        Check.due("without letters: mule(0, 5)", 0, () -> p.mule(0, 5));
        Check.due("mule(1, 5)", 0, () -> p.mule(1, 5));
        p.post(0, 1, 0);
        p.pass(100);
        Check.due("one way: mule(0, 5)", 2, () -> p.mule(0, 5));
        Check.due("it stays where the letter came: mule(0, 2)", 1, () -> p.mule(0, 2));
        Check.due("no letter was left for it: mule(1, 5)", 0, () -> p.mule(1, 5));
    }

    private static void itStaysForALetterByAnotherRoad() {
        Check.sentence("that goes by its road; otherwise it stays");
        MountainPost p = Posts.line(3);
        p.post(1, 2, 0);
        p.pass(1);
        Check.due("at the other end, but by the road 1: mule(0, 3)", 0, () -> p.mule(0, 3));
        MountainPost q = Posts.level(3);
        q.build(0, 1, 2);
        q.addMule(0, 1, false);
        q.post(1, 2, 0);
        q.post(0, 2, 0);
        q.pass(50);
        Check.due("letters that go by no road: mule(0, 5)", 0, () -> q.mule(0, 5));
    }

    private static void itStaysForALetterThatAnotherOneTook() {
        Check.sentence("if a letter waits at the other end");
        MountainPost p = Posts.road(2);
        p.addMule(0, 1, true);
        p.addMule(0, 1, false);
        p.post(1, 0, 0);
        p.pass(1);
        Check.due("mule 0 took it: mule(0, 4)", 1, () -> p.mule(0, 4));
        Check.due("mule 1 stays: mule(1, 3)", 0, () -> p.mule(1, 3));
    }

    private static void itGoesAtOnceAgain() {
        Check.sentence("Mules at the ends of their roads");
        MountainPost p = Posts.road(1);
        p.addMule(0, 1, false);
        p.post(0, 1, 0);
        p.post(1, 0, 0);
        p.pass(2);
        Check.due("come in the hour 1: letter(0, 9)", 1, () -> p.letter(0, 9));
        Check.due("and on its way back in the same hour: letter(1, 5)", 0, () -> p.letter(1, 5));
        p.pass(1);
        Check.due("letter(1, 9)", 2, () -> p.letter(1, 9));
    }

    // ---- crosses

    private static void crossesOfEachWithEach() {
        Check.sentence("two letters cross for each letter that it has and each letter of a mule that is on its way");
        for (int n = 1; n <= 6; n++) {
            int load = n;
            MountainPost p = Posts.road(2);
            p.addMule(0, 6, false);
            p.addMule(0, load, true);
            Posts.post(p, 6, 0, 1);
            Posts.post(p, 6, 1, 0);
            p.pass(1);
            Check.due("six and " + load, 6 * load, () -> p.count(9));
        }
    }

    private static void crossesWithEachMule() {
        Check.sentence("each letter of a mule that is on its way on the same road in the other direction");
        MountainPost p = Posts.road(9);
        p.addMule(0, 2, false);
        p.addMule(0, 2, false);
        p.addMule(0, 1, true);
        p.addMule(0, 1, true);
        Posts.post(p, 3, 0, 1);
        p.pass(1);
        Check.due("two mules on their way: count(6)", 3, () -> p.count(6));
        p.post(1, 0, 0);
        p.pass(1);
        Check.due("with all letters of both", 3, () -> p.count(9));
        p.post(1, 0, 0);
        p.pass(1);
        Check.due("and once more", 6, () -> p.count(9));
    }

    private static void noCrossWithoutLetters() {
        Check.sentence("for each letter that it has");
        MountainPost p = Posts.road(5);
        p.addMule(0, 1, false);
        p.addMule(0, 2, true);
        Posts.post(p, 2, 1, 0);
        p.pass(1);
        Check.due("mule 0 has none: mule(0, 4)", 0, () -> p.mule(0, 4));
        Check.due("both are on their way: road(0, 5)", 2, () -> p.road(0, 5));
        Check.due("count(9)", 0, () -> p.count(9));
    }

    /** Of five hours the first mule has one left behind four, and none in step 1 of the sixth. */
    private static void noCrossWithOneThatIsThere() {
        Check.sentence("a mule that is on its way");
        for (int n = 4; n <= 5; n++) {
            int ahead = n;
            MountainPost p = Posts.road(5);
            p.addMule(0, 1, false);
            p.addMule(0, 1, true);
            p.post(0, 1, 0);
            p.pass(ahead);
            p.post(1, 0, 0);
            p.pass(1);
            Check.due("set out " + ahead + " hours ahead", ahead == 4 ? 1 : 0, () -> p.count(9));
        }
    }

    private static void crossInTheSameHour() {
        Check.sentence("(it set out ahead of this one)");
        MountainPost p = Posts.road(1);
        p.addMule(0, 1, false);
        p.addMule(0, 1, true);
        p.post(0, 1, 0);
        p.post(1, 0, 0);
        p.pass(1);
        Check.due("once, not twice", 1, () -> p.count(9));
        p.pass(100);
        Check.due("and no more", 1, () -> p.count(9));
    }

    private static void noCrossInTheSameDirection() {
        Check.sentence("in the other direction");
        MountainPost p = Posts.level(4);
        p.build(0, 1, 1);
        p.build(1, 2, 2);
        p.build(2, 3, 1);
        p.addMule(0, 1, false);
        p.addMule(1, 1, true);
        p.addMule(2, 1, true);
        p.addMule(1, 1, false);
        p.setSight(3, 1, true);
        p.post(3, 0, 0);
        p.pass(2);
        p.recall(0);
        p.post(0, 3, 0);
        p.pass(2);
        Check.due("letter 0 turned at 1", 1, () -> p.letter(0, 7));
        Check.due("and goes back to 2 with the mule 1", 1, () -> p.letter(0, 5));
        Check.due("letter 1, its answer, goes to 2 with the mule 3", 3, () -> p.letter(1, 5));
        Check.due("in the same hour", 2, () -> p.road(1, 5));
        Check.due("count(9)", 0, () -> p.count(9));
        p.pass(100);
        Check.due("count(9) in the end", 0, () -> p.count(9));
    }

    private static void noCrossOnAnotherRoad() {
        Check.sentence("on the same road");
        MountainPost p = Posts.road(4);
        p.build(0, 1, 4);
        p.addMule(1, 1, false);
        p.post(0, 1, 0);
        p.pass(1);
        p.addMule(0, 1, true);
        p.post(1, 0, 0);
        p.pass(1);
        Check.due("road(0, 5)", 1, () -> p.road(0, 5));
        Check.due("road(1, 5)", 1, () -> p.road(1, 5));
        Check.due("count(9)", 0, () -> p.count(9));
    }

    private static void bothMustBeAnswers() {
        Check.sentence("if each of both came from the station to which the other one is to go");
        Check.due("from 0 to 3 and from 3 to 0", 1, () -> crossesInTheMiddle(0, 3, 3, 0));
        Check.due("from 1 to 2 and from 2 to 1", 1, () -> crossesInTheMiddle(1, 2, 2, 1));
        Check.due("from 0 to 3 and from 3 to 1", 0, () -> crossesInTheMiddle(0, 3, 3, 1));
        Check.due("from 0 to 2 and from 3 to 0", 0, () -> crossesInTheMiddle(0, 2, 3, 0));
        Check.due("from 0 to 3 and from 2 to 0", 0, () -> crossesInTheMiddle(0, 3, 2, 0));
        Check.due("from 0 to 3 and from 2 to 1", 0, () -> crossesInTheMiddle(0, 3, 2, 1));
    }

    /** Crosses on the long road between 1 and 2, if both letters are on it at the same time. */
    private static int crossesInTheMiddle(int from, int to, int fromOther, int toOther) {
        MountainPost p = Posts.level(4);
        p.build(0, 1, 1);
        p.build(1, 2, 20);
        p.build(2, 3, 1);
        p.addMule(0, 1, false);
        p.addMule(1, 1, true);
        p.addMule(1, 1, false);
        p.addMule(2, 1, true);
        p.post(from, to, 0);
        p.post(fromOther, toOther, 0);
        p.pass(2);
        boolean haveMet = p.count(6) == 2 && p.road(1, 5) == 2;
        p.pass(98);
        return haveMet ? p.count(9) : -1;
    }

    /** Both go between 0 and 1 at the same time, but came from the same station, whatever their directions are now. */
    private static void noCrossOfOneThatTurnedWithTheNextOne() {
        Check.sentence("if each of both came from the station to which the other one is to go");
        MountainPost p = threeWithSight();
        p.post(0, 2, 0);
        p.pass(1);
        p.recall(0);
        p.pass(1);
        p.post(0, 2, 0);
        p.pass(1);
        Check.due("letter 0 turned: letter(0, 7)", 1, () -> p.letter(0, 7));
        Check.due("and goes home with the mule 0: letter(0, 5)", 0, () -> p.letter(0, 5));
        Check.due("letter 1 comes towards it with the mule 1: letter(1, 5)", 1, () -> p.letter(1, 5));
        Check.due("both are on their way: road(0, 5)", 2, () -> p.road(0, 5));
        Check.due("count(9)", 0, () -> p.count(9));
    }

    /** From 0 to 3 and from 3 to 0, recalled, they pass each other between 1 and 2 a second time: on their way home. */
    private static void crossOfAnswersThatTurned() {
        Check.sentence("if each of both came from the station to which the other one is to go");
        MountainPost p = Posts.level(4);
        for (int r = 0; r < 3; r++) {
            p.build(r, r + 1, 2);
        }
        p.addMule(0, 1, false);
        p.addMule(1, 1, false);
        p.addMule(1, 1, true);
        p.addMule(2, 1, true);
        p.post(0, 3, 0);
        p.post(3, 0, 0);
        p.pass(3);
        Check.due("on their way there: count(9)", 1, () -> p.count(9));
        for (int s = 0; s < 4; s++) {
            for (int t = s + 1; t < 4; t++) {
                p.setSight(s, t, true);
            }
        }
        p.recall(0);
        p.recall(1);
        p.pass(2);
        Check.due("letter 0 turned: letter(0, 7)", 1, () -> p.letter(0, 7));
        Check.due("letter 1 turned: letter(1, 7)", 1, () -> p.letter(1, 7));
        Check.due("both are with mules: count(6)", 2, () -> p.count(6));
        Check.due("on their way home: count(9)", 2, () -> p.count(9));
        p.pass(4);
        Check.due("count(8)", 2, () -> p.count(8));
        Check.due("count(9) in the end", 2, () -> p.count(9));
    }

    /** Two mules at 0 on the road to 1; the one from 1 to 2 is far away; all see each other. */
    private static MountainPost threeWithSight() {
        MountainPost p = Posts.level(3);
        p.build(0, 1, 2);
        p.build(1, 2, 20);
        p.addMule(0, 1, false);
        p.addMule(0, 1, false);
        p.addMule(1, 1, true);
        Posts.chainOfSight(p, 3);
        return p;
    }

    // ---- step 4

    private static void theHourIsOneGreater() {
        Check.sentence("The hour is 1 greater.");
        MountainPost p = Posts.line(2);
        for (int hour = 0; hour < 5; hour++) {
            int now = hour;
            Check.due("count(0)", now, () -> p.count(0));
            p.pass(1);
        }
        p.post(0, 1, 0);
        p.recall(0);
        p.pass(1);
        Check.due("what happens in the hour 5 has its number: letter(0, 9)", 5, () -> p.letter(0, 9));
    }
}
