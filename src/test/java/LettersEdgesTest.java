/** Promises 10 to 12 and step 2 of an hour: each sentence that names a boundary case has a test here. */
final class LettersEdgesTest {
    private LettersEdgesTest() {
    }

    public static void main(String[] args) {
        sixtyLetters();
        theSixtyFirstLetter();
        lettersFromNoStation();
        aLetterToItself();
        anUrgencyTooSmallOrTooLarge();
        aPostedLetterWaits();
        theHourWhenItWasPosted();
        recallOfNoLetter();
        recallOfARecalledOne();
        recallOfOneThatHasCome();
        recallOfOneThatIsBack();
        recallOfOneWithAMule();
        knownFromNowOnInFogToo();
        stationsThatWouldKnow();
        stationsThatWouldKnowInFog();
        lettersOutside();
        theFourStates();
        theStationWhereItIs();
        theMuleThatHasIt();
        whetherItIsRecalled();
        whetherItHasTurned();
        theHourWhenItCame();
        stationsThatKnow();
        aStationAnHour();
        firesGoOnWhileAllElseRests();
        fogOverTheOneThatKnows();
        fogOverTheOneThatSeesIt();
        firesForOneThatHasCome();
        firesForOneThatIsBack();
        aRecallKnownInThisHour();
        noTurnWithAMule();
        noTurnWhereItIsNotKnown();
        noTurnOfOneThatHasComeInThisHour();
        onlyOneTurn();
        backWhereItCameFrom();
        backWhereItCameAgainUnturned();
        turnedAwayFromHome();
        Check.end();
    }

    // ---- promise 10

    private static void sixtyLetters() {
        Check.sentence("There are at most 60, numbered likewise");
        MountainPost p = Posts.level(10);
        for (int l = 0; l < 60; l++) {
            int number = l;
            Check.due("post", number, () -> p.post(number % 10, (number + 3) % 10, number / 6));
        }
        for (int l = 0; l < 60; l++) {
            int number = l;
            Check.due("letter(" + number + ", 0)", number % 10, () -> p.letter(number, 0));
            Check.due("letter(" + number + ", 1)", (number + 3) % 10, () -> p.letter(number, 1));
            Check.due("letter(" + number + ", 2)", number / 6, () -> p.letter(number, 2));
        }
    }

    private static void theSixtyFirstLetter() {
        Check.sentence("Throws `IllegalStateException` if there are 60");
        MountainPost p = Posts.line(2);
        Posts.post(p, 59, 0, 1);
        Check.due("the sixtieth", 59, () -> p.post(1, 0, 9));
        Check.wrongState("the sixty-first", () -> p.post(0, 1, 0));
        for (int i = 0; i < 5; i++) {
            p.pass(100);
        }
        Check.due("all have come", 60, () -> p.count(7));
        Check.wrongState("and they are still there", () -> p.post(0, 1, 9));
        Check.due("count(4)", 60, () -> p.count(4));
        Check.due("the sixtieth keeps where it came from", 1, () -> p.letter(59, 0));
    }

    private static void lettersFromNoStation() {
        Check.sentence("post: Throws `IndexOutOfBoundsException` if there is no such station");
        MountainPost p = Posts.level(3);
        for (int station : Check.outside(0, 2)) {
            Check.outOfBounds("post(" + station + ", 0, 5)", () -> p.post(station, 0, 5));
            Check.outOfBounds("post(0, " + station + ", 5)", () -> p.post(0, station, 5));
        }
        Check.due("count(4)", 0, () -> p.count(4));
        Check.due("post(2, 0, 5)", 0, () -> p.post(2, 0, 5));
    }

    private static void aLetterToItself() {
        Check.sentence("post: Throws `IllegalArgumentException` if both are the same");
        MountainPost p = Posts.level(3);
        for (int s = 0; s < 3; s++) {
            int station = s;
            Check.wrongArgument("post(" + s + ", " + s + ", 0)", () -> p.post(station, station, 0));
        }
        Check.due("count(4)", 0, () -> p.count(4));
    }

    private static void anUrgencyTooSmallOrTooLarge() {
        Check.sentence("or urgency is not 0 to 9");
        MountainPost p = Posts.level(2);
        for (int urgency : Check.outside(0, 9)) {
            Check.wrongArgument("post(0, 1, " + urgency + ")", () -> p.post(0, 1, urgency));
        }
        Check.due("the least", 0, () -> p.post(0, 1, 0));
        Check.due("the greatest", 1, () -> p.post(0, 1, 9));
        Check.due("letter(0, 2)", 0, () -> p.letter(0, 2));
        Check.due("letter(1, 2)", 9, () -> p.letter(1, 2));
    }

    private static void aPostedLetterWaits() {
        Check.sentence("it waits at the station from which it comes");
        MountainPost p = Posts.line(3);
        p.post(2, 0, 3);
        letterIs(p, 0, 2, 0, 3, 0, 2, -1, 0, 0, 0, -1, 0);
        Check.due("station(2, 1)", 1, () -> p.station(2, 1));
    }

    private static void theHourWhenItWasPosted() {
        Check.sentence("8 the hour when it was posted");
        MountainPost p = Posts.level(2);
        p.post(0, 1, 0);
        p.pass(100);
        p.post(0, 1, 0);
        p.pass(1);
        p.post(0, 1, 0);
        Check.due("letter(0, 8)", 0, () -> p.letter(0, 8));
        Check.due("letter(1, 8)", 100, () -> p.letter(1, 8));
        Check.due("letter(2, 8)", 101, () -> p.letter(2, 8));
    }

    // ---- promise 11

    private static void recallOfNoLetter() {
        Check.sentence("recall: Throws `IndexOutOfBoundsException` if there is no such letter");
        MountainPost p = Posts.level(2);
        p.post(0, 1, 0);
        p.post(0, 1, 0);
        for (int letter : Check.outside(0, 1)) {
            Check.outOfBounds("recall(" + letter + ")", () -> p.recall(letter));
        }
        Check.due("recall(1)", 0, () -> p.recall(1));
        Check.due("letter(0, 6)", 0, () -> p.letter(0, 6));
    }

    private static void recallOfARecalledOne() {
        Check.sentence("Throws `IllegalStateException` if it was recalled");
        MountainPost p = Posts.line(3);
        p.post(0, 2, 0);
        p.pass(1);
        Check.due("recall(0)", 0, () -> p.recall(0));
        Check.wrongState("at once again", () -> p.recall(0));
        p.pass(2);
        Check.due("it is still on its way", 1, () -> p.letter(0, 3));
        Check.wrongState("later again", () -> p.recall(0));
    }

    private static void recallOfOneThatHasCome() {
        Check.sentence("Throws `IllegalStateException` if it .. has come");
        MountainPost p = Posts.line(2);
        p.post(0, 1, 0);
        p.pass(2);
        p.post(0, 1, 0);
        p.pass(1);
        Check.due("it has come", 2, () -> p.letter(0, 3));
        Check.wrongState("recall(0)", () -> p.recall(0));
        Check.due("letter(0, 6)", 0, () -> p.letter(0, 6));
        Check.due("letter(0, 10)", 0, () -> p.letter(0, 10));
        Check.due("recall(1)", 0, () -> p.recall(1));
    }

    private static void recallOfOneThatIsBack() {
        Check.sentence("Throws `IllegalStateException` if it .. is back");
        MountainPost p = Posts.level(2);
        p.post(0, 1, 0);
        p.recall(0);
        p.pass(1);
        Check.due("it is back", 3, () -> p.letter(0, 3));
        Check.wrongState("recall(0)", () -> p.recall(0));
    }

    private static void recallOfOneWithAMule() {
        Check.sentence("Recalls a letter");
        MountainPost p = Posts.line(2);
        Posts.chainOfSight(p, 2);
        p.post(0, 1, 0);
        p.pass(1);
        Check.due("recall(0) of one with a mule", 1, () -> p.recall(0));
        letterIs(p, 0, 0, 1, 0, 1, -1, 0, 1, 0, 0, -1, 1);
    }

    private static void knownFromNowOnInFogToo() {
        Check.sentence("the station from which it came knows of it from now on (also if it has fog)");
        MountainPost p = Posts.level(2);
        p.post(0, 1, 0);
        p.post(0, 1, 0);
        p.setFog(0, true);
        Check.due("ahead: letter(0, 10)", 0, () -> p.letter(0, 10));
        p.recall(0);
        Check.due("in fog: letter(0, 10)", 1, () -> p.letter(0, 10));
        p.pass(1);
        Check.due("it meets the letter in fog too: letter(0, 3)", 3, () -> p.letter(0, 3));
        Check.due("the other letter: letter(1, 10)", 0, () -> p.letter(1, 10));
    }

    private static void stationsThatWouldKnow() {
        Check.sentence("Returns how many other stations would know of it sooner or later");
        MountainPost p = Posts.level(10);
        Posts.post(p, 3, 4, 5);
        Check.due("none", 0, () -> p.recall(0));
        p.setSight(4, 9, true);
        Check.due("one", 1, () -> p.recall(1));
        Posts.chainOfSight(p, 10);
        Check.due("all others, at both sides", 9, () -> p.recall(2));
        Check.due("sooner or later is not now", 1, () -> p.letter(2, 10));
    }

    private static void stationsThatWouldKnowInFog() {
        Check.sentence("by fog and sight as they are now");
        MountainPost p = Posts.level(4);
        Posts.chainOfSight(p, 4);
        Posts.post(p, 5, 0, 3);
        p.setFog(3, true);
        Check.due("fog at the end", 2, () -> p.recall(0));
        p.setFog(1, true);
        Check.due("fog between", 0, () -> p.recall(1));
        p.setFog(1, false);
        p.setFog(3, false);
        p.setFog(0, true);
        Check.due("fog over the first one", 0, () -> p.recall(2));
        p.setFog(0, false);
        p.setSight(1, 2, false);
        Check.due("no sight between", 1, () -> p.recall(3));
        p.setSight(1, 3, true);
        Check.due("round about", 3, () -> p.recall(4));
    }

    // ---- promise 12

    private static void lettersOutside() {
        Check.sentence("if there is no such letter, or what is not 0 to 10");
        MountainPost p = Posts.level(2);
        p.post(0, 1, 0);
        p.post(1, 0, 0);
        for (int letter : Check.outside(0, 1)) {
            for (int what = 0; what <= 10; what++) {
                int w = what;
                Check.outOfBounds("letter(" + letter + ", " + w + ")", () -> p.letter(letter, w));
            }
        }
        for (int what : Check.outside(0, 10)) {
            Check.outOfBounds("letter(0, " + what + ")", () -> p.letter(0, what));
        }
        Check.due("letter(1, 10)", 0, () -> p.letter(1, 10));
    }

    private static void theFourStates() {
        Check.sentence("3 0 if it waits, 1 if it is with a mule, 2 if it has come, 3 if it is back");
        MountainPost p = Posts.line(2);
        p.post(0, 1, 0);
        Check.due("it waits", 0, () -> p.letter(0, 3));
        p.pass(1);
        Check.due("it is with a mule", 1, () -> p.letter(0, 3));
        p.pass(2);
        Check.due("it has come", 2, () -> p.letter(0, 3));
        p.post(0, 1, 0);
        p.recall(1);
        Check.due("it still waits", 0, () -> p.letter(1, 3));
        p.pass(1);
        Check.due("it is back", 3, () -> p.letter(1, 3));
    }

    private static void theStationWhereItIs() {
        Check.sentence("4 the station where it is, -1 with a mule");
        MountainPost p = Posts.line(3);
        p.post(0, 2, 0);
        int[] due = {0, -1, -1, -1, -1, 2, 2};
        for (int hour = 0; hour < due.length; hour++) {
            int place = due[hour];
            Check.due("letter(0, 4) at the hour " + hour, place, () -> p.letter(0, 4));
            p.pass(1);
        }
        p.post(1, 0, 0);
        p.recall(1);
        p.pass(1);
        Check.due("one that is back: letter(1, 4)", 1, () -> p.letter(1, 4));
        MountainPost q = waitingAtStation1();
        Check.due("one that waits between: letter(0, 4)", 1, () -> q.letter(0, 4));
    }

    private static void theMuleThatHasIt() {
        Check.sentence("5 the mule that has it, -1 without one");
        MountainPost p = Posts.line(3);
        p.post(0, 2, 0);
        int[] due = {-1, 0, 0, 1, 1, -1, -1};
        for (int hour = 0; hour < due.length; hour++) {
            int mule = due[hour];
            Check.due("letter(0, 5) at the hour " + hour, mule, () -> p.letter(0, 5));
            p.pass(1);
        }
        p.post(0, 2, 0);
        p.recall(1);
        p.pass(1);
        Check.due("letter(1, 5): it is back", -1, () -> p.letter(1, 5));
    }

    private static void whetherItIsRecalled() {
        Check.sentence("6 1 if it is recalled, else 0");
        MountainPost p = Posts.level(2);
        p.post(0, 1, 0);
        Check.due("ahead: letter(0, 6)", 0, () -> p.letter(0, 6));
        p.recall(0);
        Check.due("letter(0, 6)", 1, () -> p.letter(0, 6));
        p.pass(100);
        Check.due("when it is back: letter(0, 6)", 1, () -> p.letter(0, 6));
    }

    private static void whetherItHasTurned() {
        Check.sentence("7 1 if it has turned, else 0");
        MountainPost p = Posts.level(2);
        p.post(0, 1, 0);
        p.recall(0);
        Check.due("recalled is not turned: letter(0, 7)", 0, () -> p.letter(0, 7));
        p.pass(1);
        Check.due("letter(0, 7)", 1, () -> p.letter(0, 7));
    }

    private static void theHourWhenItCame() {
        Check.sentence("9 that when it came or was back (the number of this hour), -1 if not");
        MountainPost p = Posts.line(2);
        p.post(0, 1, 0);
        p.post(0, 1, 0);
        p.recall(0);
        Check.due("ahead: letter(0, 9)", -1, () -> p.letter(0, 9));
        p.pass(1);
        Check.due("back in the hour 0: letter(0, 9)", 0, () -> p.letter(0, 9));
        p.pass(1);
        Check.due("on its way: letter(1, 9)", -1, () -> p.letter(1, 9));
        p.pass(1);
        Check.due("come in the hour 2: letter(1, 9)", 2, () -> p.letter(1, 9));
        p.pass(100);
        Check.due("and later on: letter(0, 9)", 0, () -> p.letter(0, 9));
        Check.due("and later on: letter(1, 9)", 2, () -> p.letter(1, 9));
    }

    private static void stationsThatKnow() {
        Check.sentence("10 stations that know of its recall");
        MountainPost p = Posts.level(10);
        for (int s = 1; s < 10; s++) {
            p.setSight(0, s, true);
        }
        p.post(0, 1, 0);
        Check.due("none: letter(0, 10)", 0, () -> p.letter(0, 10));
        p.recall(0);
        Check.due("one: letter(0, 10)", 1, () -> p.letter(0, 10));
        p.pass(1);
        Check.due("all: letter(0, 10)", 10, () -> p.letter(0, 10));
        p.pass(100);
        Check.due("still all: letter(0, 10)", 10, () -> p.letter(0, 10));
    }

    // ---- step 2 of an hour

    private static void aStationAnHour() {
        Check.sentence("each station that knew of it ahead of this hour");
        MountainPost p = Posts.level(5);
        Posts.chainOfSight(p, 5);
        p.post(0, 4, 0);
        p.post(4, 0, 0);
        p.post(2, 0, 0);
        for (int letter = 0; letter < 3; letter++) {
            p.recall(letter);
        }
        int[] fromTheMiddle = {1, 3, 5, 5, 5, 5};
        for (int hour = 0; hour < 6; hour++) {
            int known = Math.min(5, hour + 1);
            int knownAround = fromTheMiddle[hour];
            Check.due("upwards, at the hour " + hour, known, () -> p.letter(0, 10));
            Check.due("downwards, at the hour " + hour, known, () -> p.letter(1, 10));
            Check.due("both ways, at the hour " + hour, knownAround, () -> p.letter(2, 10));
            p.pass(1);
        }
    }

    private static void firesGoOnWhileAllElseRests() {
        Check.sentence("lets all stations know that it sees");
        MountainPost p = Posts.level(10);
        Posts.chainOfSight(p, 10);
        p.post(0, 9, 0);
        p.recall(0);
        p.pass(8);
        Check.due("behind eight hours at once: letter(0, 10)", 9, () -> p.letter(0, 10));
        p.pass(100);
        Check.due("behind a hundred more: letter(0, 10)", 10, () -> p.letter(0, 10));
        p.post(9, 0, 0);
        p.pass(100);
        p.recall(1);
        p.pass(9);
        Check.due("a later one: letter(1, 10)", 10, () -> p.letter(1, 10));
        MountainPost q = Posts.level(5);
        Posts.chainOfSight(q, 4);
        q.post(0, 1, 0);
        q.post(4, 1, 0);
        q.recall(0);
        q.recall(1);
        q.pass(3);
        Check.due("beside one that no station sees: letter(0, 10)", 4, () -> q.letter(0, 10));
        Check.due("and this one: letter(1, 10)", 1, () -> q.letter(1, 10));
    }

    private static void fogOverTheOneThatKnows() {
        Check.sentence("each station that knew of it .., and has no fog, lets all stations know that it sees");
        MountainPost p = Posts.level(3);
        p.setSight(0, 1, true);
        p.setSight(0, 2, true);
        p.post(0, 1, 0);
        p.setFog(0, true);
        p.recall(0);
        p.pass(5);
        Check.due("in fog: letter(0, 10)", 1, () -> p.letter(0, 10));
        p.setFog(0, false);
        p.pass(1);
        Check.due("without fog: letter(0, 10)", 3, () -> p.letter(0, 10));
    }

    private static void fogOverTheOneThatSeesIt() {
        Check.sentence("lets all stations know that it sees, and that have no fog");
        MountainPost p = Posts.level(3);
        p.setSight(0, 1, true);
        p.setSight(0, 2, true);
        p.post(0, 1, 0);
        p.setFog(1, true);
        p.recall(0);
        p.pass(5);
        Check.due("one in fog: letter(0, 10)", 2, () -> p.letter(0, 10));
        p.setFog(1, false);
        p.pass(1);
        Check.due("none in fog: letter(0, 10)", 3, () -> p.letter(0, 10));
        p.setFog(1, true);
        p.pass(1);
        Check.due("what is known stays known in fog: letter(0, 10)", 3, () -> p.letter(0, 10));
    }

    private static void firesForOneThatHasCome() {
        Check.sentence("(also if it has come .. by now)");
        MountainPost p = Posts.line(2);
        p.post(0, 1, 0);
        p.pass(1);
        p.recall(0);
        p.pass(2);
        Check.due("it has come", 2, () -> p.letter(0, 3));
        p.setSight(0, 1, true);
        p.pass(1);
        Check.due("letter(0, 10)", 2, () -> p.letter(0, 10));
        letterIs(p, 0, 0, 1, 0, 2, 1, -1, 1, 0, 0, 2, 2);
    }

    private static void firesForOneThatIsBack() {
        Check.sentence("(also if it .. is back by now)");
        MountainPost p = Posts.level(3);
        p.post(0, 1, 0);
        p.recall(0);
        p.pass(1);
        Check.due("it is back", 3, () -> p.letter(0, 3));
        Posts.chainOfSight(p, 3);
        p.pass(1);
        Check.due("letter(0, 10)", 2, () -> p.letter(0, 10));
        p.pass(1);
        letterIs(p, 0, 0, 1, 0, 3, 0, -1, 1, 1, 0, 0, 3);
    }

    private static void aRecallKnownInThisHour() {
        Check.sentence("if the letter waits at a station that knows of its recall (now)");
        MountainPost p = waitingAtStation1();
        p.setSight(0, 1, true);
        p.recall(0);
        Check.due("ahead: letter(0, 7)", 0, () -> p.letter(0, 7));
        p.pass(1);
        Check.due("in the hour in which the station hears of it: letter(0, 7)", 1, () -> p.letter(0, 7));
        Check.due("and a mule takes it back in the same hour: letter(0, 5)", 0, () -> p.letter(0, 5));
        p.pass(2);
        letterIs(p, 0, 0, 2, 0, 3, 0, -1, 1, 1, 0, 5, 2);
    }

    private static void noTurnWithAMule() {
        Check.sentence("if the letter waits at a station");
        MountainPost p = Posts.line(3);
        p.post(0, 2, 0);
        p.pass(1);
        p.setSight(0, 1, true);
        p.setSight(0, 2, true);
        p.recall(0);
        p.pass(1);
        Check.due("all know", 3, () -> p.letter(0, 10));
        Check.due("it is with a mule: letter(0, 7)", 0, () -> p.letter(0, 7));
        p.pass(1);
        Check.due("it turns where the mule leaves it: letter(0, 7)", 1, () -> p.letter(0, 7));
    }

    private static void noTurnWhereItIsNotKnown() {
        Check.sentence("waits at a station that knows of its recall");
        MountainPost p = waitingAtStation1();
        p.setSight(0, 2, true);
        p.recall(0);
        p.pass(5);
        Check.due("two know", 2, () -> p.letter(0, 10));
        Check.due("the one where it waits does not: letter(0, 7)", 0, () -> p.letter(0, 7));
    }

    private static void noTurnOfOneThatHasComeInThisHour() {
        Check.sentence("A letter that is where it goes has come (if it has not turned)");
        MountainPost p = Posts.line(2);
        p.post(0, 1, 0);
        p.pass(2);
        p.setSight(0, 1, true);
        p.recall(0);
        p.pass(1);
        letterIs(p, 0, 0, 1, 0, 2, 1, -1, 1, 0, 0, 2, 2);
        Check.due("count(8)", 0, () -> p.count(8));
    }

    private static void onlyOneTurn() {
        Check.sentence("and has not turned, it turns");
        MountainPost p = waitingAtStation1();
        p.setSight(0, 1, true);
        p.post(1, 0, 9);
        p.recall(0);
        p.pass(1);
        Check.due("the mule took another one: letter(0, 3)", 0, () -> p.letter(0, 3));
        Check.due("it turned: letter(0, 7)", 1, () -> p.letter(0, 7));
        p.pass(2);
        Check.due("it still waits: letter(0, 3)", 0, () -> p.letter(0, 3));
        Check.due("and has still turned: letter(0, 7)", 1, () -> p.letter(0, 7));
        p.pass(4);
        letterIs(p, 0, 0, 2, 0, 3, 0, -1, 1, 1, 0, 9, 2);
    }

    private static void backWhereItCameFrom() {
        Check.sentence("if this is the station from which it came, it is back");
        MountainPost p = Posts.line(3);
        p.post(1, 2, 0);
        p.post(1, 2, 0);
        p.recall(0);
        Check.due("pass(1)", 0, () -> p.pass(1));
        letterIs(p, 0, 1, 2, 0, 3, 1, -1, 1, 1, 0, 0, 1);
        Check.due("the other one goes: letter(1, 3)", 1, () -> p.letter(1, 3));
        Check.due("count(8)", 1, () -> p.count(8));
    }

    /** A mule on a shorter road sends the letter home, where it waits, not turned: there the recall meets it. */
    private static void backWhereItCameAgainUnturned() {
        Check.sentence("and has not turned, it turns; if this is the station from which it came, it is back");
        MountainPost p = waitingAtStation1();
        p.build(0, 2, 1);
        p.addMule(2, 1, true);
        p.pass(3);
        Check.due("it waits where it came from: letter(0, 4)", 0, () -> p.letter(0, 4));
        Check.due("letter(0, 3)", 0, () -> p.letter(0, 3));
        Check.due("letter(0, 7)", 0, () -> p.letter(0, 7));
        p.recall(0);
        p.pass(1);
        letterIs(p, 0, 0, 2, 0, 3, 0, -1, 1, 1, 0, 6, 1);
    }

    private static void turnedAwayFromHome() {
        Check.sentence("or is back (if it has); others wait there");
        MountainPost p = turnedAtStation2();
        letterIs(p, 0, 0, 3, 0, 1, -1, 1, 1, 1, 0, -1, 3);
        p.pass(2);
        letterIs(p, 0, 0, 3, 0, 1, -1, 0, 1, 1, 0, -1, 3);
        Check.due("pass(2): back is not come", 0, () -> p.pass(2));
        letterIs(p, 0, 0, 3, 0, 3, 0, -1, 1, 1, 0, 8, 3);
    }

    /** At the hour 3 a letter from 0 to 2 waits at 1, with the mule that brought it; the next one is 20 hours away. */
    private static MountainPost waitingAtStation1() {
        MountainPost p = Posts.level(3);
        p.build(0, 1, 2);
        p.addMule(0, 1, false);
        p.build(1, 2, 20);
        p.addMule(1, 1, true);
        p.post(0, 2, 0);
        p.pass(3);
        return p;
    }

    /** At the hour 5 a letter from 0 to 3 has turned at 2 and is with the mule 1: the stations 0, 1 and 2 know. */
    private static MountainPost turnedAtStation2() {
        MountainPost p = Posts.line(4);
        p.post(0, 3, 0);
        p.pass(4);
        p.setSight(0, 1, true);
        p.setSight(0, 2, true);
        p.recall(0);
        p.pass(1);
        return p;
    }

    private static void letterIs(MountainPost p, int letter, int... due) {
        for (int what = 0; what < due.length; what++) {
            int w = what;
            Check.due("letter(" + letter + ", " + w + ") at the hour " + p.count(0), due[w], () -> p.letter(letter, w));
        }
    }
}
