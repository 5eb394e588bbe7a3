/** Promises 10 to 12: letters, and how fires recall them. */
final class LettersTest {
    private LettersTest() {
    }

    public static void main(String[] args) {
        posting();
        sixtyLetters();
        whatALetterTells();
        recallWhereItCameFrom();
        recallOnTheWay();
        recallFollowsFog();
        firesGoOnForEndedLetters();
        recallCountsOtherStations();
        recallOfNoUse();
        onlyWhereTheRecallIsKnown();
        aComeLetterStaysWhereItIs();
        aTurnedLetterPassesItsGoal();
        Check.end();
    }

    private static void posting() {
        MountainPost p = Posts.line(3);
        Check.outOfBounds("post(0, 3, 1)", () -> p.post(0, 3, 1));
        Check.outOfBounds("post(-1, 0, 1)", () -> p.post(-1, 0, 1));
        Check.outOfBounds("post(3, 3, 10)", () -> p.post(3, 3, 10));
        Check.wrongArgument("post(1, 1, 1)", () -> p.post(1, 1, 1));
        Check.wrongArgument("post(0, 1, 10)", () -> p.post(0, 1, 10));
        Check.wrongArgument("post(0, 1, -1)", () -> p.post(0, 1, -1));
        Check.due("none of these is there", 0, () -> p.count(4));
        Check.due("post(0, 1, 0)", 0, () -> p.post(0, 1, 0));
        Check.due("post(2, 0, 9)", 1, () -> p.post(2, 0, 9));
        Check.due("station(2, 1)", 1, () -> p.station(2, 1));
        Check.due("station(1, 1)", 0, () -> p.station(1, 1));
    }

    private static void sixtyLetters() {
        MountainPost p = Posts.line(2);
        for (int i = 0; i < 60; i++) {
            int number = i;
            Check.due("post", number, () -> p.post(number % 2, 1 - number % 2, number % 10));
        }
        Check.wrongState("the 61st letter", () -> p.post(0, 1, 0));
        Check.wrongArgument("the 61st letter, and to itself", () -> p.post(0, 0, 0));
        Check.outOfBounds("the 61st letter, and to nowhere", () -> p.post(0, 2, 11));
        Check.due("count(4)", 60, () -> p.count(4));
        Check.due("letter(59, 2)", 9, () -> p.letter(59, 2));
        p.pass(100);
        Check.due("a line with mules of load 6 brings all", 60, () -> p.count(7));
    }

    private static void whatALetterTells() {
        MountainPost p = Posts.line(3);
        p.pass(7);
        p.post(0, 2, 4);
        tells(p, 0, 0, 2, 4, 0, 0, -1, 0, 0, 7, -1, 0);
        p.pass(1);
        tells(p, 0, 0, 2, 4, 1, -1, 0, 0, 0, 7, -1, 0);
        p.pass(2);
        tells(p, 0, 0, 2, 4, 1, -1, 1, 0, 0, 7, -1, 0);
        p.pass(2);
        tells(p, 0, 0, 2, 4, 2, 2, -1, 0, 0, 7, 11, 0);
        Check.outOfBounds("letter(1, 0)", () -> p.letter(1, 0));
        Check.outOfBounds("letter(-1, 0)", () -> p.letter(-1, 0));
        Check.outOfBounds("letter(0, 11)", () -> p.letter(0, 11));
        Check.outOfBounds("letter(0, -1)", () -> p.letter(0, -1));
    }

    private static void recallWhereItCameFrom() {
        MountainPost p = Posts.line(3);
        p.setFog(0, true);
        p.post(0, 2, 4);
        Check.due("recall(0) in fog", 0, () -> p.recall(0));
        tells(p, 0, 0, 2, 4, 0, 0, -1, 1, 0, 0, -1, 1);
        p.pass(1);
        tells(p, 0, 0, 2, 4, 3, 0, -1, 1, 1, 0, 0, 1);
        Check.wrongState("recall(0) again", () -> p.recall(0));
        Check.due("count(8)", 1, () -> p.count(8));
    }

    /** The letter is a station ahead of the fire, which sees it turn where it next waits. */
    private static void recallOnTheWay() {
        MountainPost p = Posts.line(4);
        Posts.chainOfSight(p, 4);
        p.post(0, 3, 0);
        p.pass(1);
        Check.due("recall(0)", 3, () -> p.recall(0));
        Check.wrongState("recall(0) again", () -> p.recall(0));
        p.pass(1);
        tells(p, 0, 0, 3, 0, 1, -1, 0, 1, 0, 0, -1, 2);
        p.pass(1);
        tells(p, 0, 0, 3, 0, 1, -1, 0, 1, 1, 0, -1, 3);
        Check.due("it goes back by the same mule", 0, () -> p.mule(0, 2));
        p.pass(1);
        Check.due("all know", 4, () -> p.letter(0, 10));
        p.pass(1);
        tells(p, 0, 0, 3, 0, 3, 0, -1, 1, 1, 0, 4, 4);
    }

    /** Fog at the one that knows holds the fire back, fog at the other one too; it goes on when the fog goes. */
    private static void recallFollowsFog() {
        MountainPost p = Posts.level(3);
        Posts.chainOfSight(p, 3);
        p.post(0, 1, 0);
        p.setFog(1, true);
        Check.due("recall(0) ahead of fog", 0, () -> p.recall(0));
        p.pass(3);
        Check.due("only the first one knows", 1, () -> p.letter(0, 10));
        p.setFog(1, false);
        p.pass(1);
        Check.due("the second one knows", 2, () -> p.letter(0, 10));
        p.setFog(1, true);
        p.pass(2);
        Check.due("and keeps it", 2, () -> p.letter(0, 10));
        p.setFog(1, false);
        p.setFog(0, true);
        p.pass(1);
        Check.due("the third one knows", 3, () -> p.letter(0, 10));
    }

    private static void firesGoOnForEndedLetters() {
        MountainPost p = Posts.level(4);
        Posts.chainOfSight(p, 4);
        p.post(0, 3, 0);
        p.recall(0);
        p.pass(1);
        Check.due("it is back at once", 3, () -> p.letter(0, 3));
        Check.due("two know", 2, () -> p.letter(0, 10));
        p.pass(2);
        Check.due("all know in the end", 4, () -> p.letter(0, 10));
    }

    private static void recallCountsOtherStations() {
        MountainPost p = Posts.level(5);
        p.setSight(0, 1, true);
        p.setSight(1, 2, true);
        p.setSight(3, 4, true);
        for (int i = 0; i < 4; i++) {
            p.post(i == 3 ? 3 : 0, 4 - i, 0);
        }
        Check.due("recall(0)", 2, () -> p.recall(0));
        p.setFog(2, true);
        Check.due("recall(1) with fog at its end", 1, () -> p.recall(1));
        p.setFog(0, true);
        Check.due("recall(2) in fog", 0, () -> p.recall(2));
        Check.due("recall(3) elsewhere", 1, () -> p.recall(3));
        Check.due("letter(0, 10) at once", 1, () -> p.letter(0, 10));
    }

    private static void recallOfNoUse() {
        MountainPost p = Posts.line(2);
        Check.outOfBounds("recall(0) of none", () -> p.recall(0));
        p.post(0, 1, 0);
        Check.outOfBounds("recall(1)", () -> p.recall(1));
        Check.outOfBounds("recall(-1)", () -> p.recall(-1));
        p.pass(1);
        Check.due("recall(0) too late to meet it", 0, () -> p.recall(0));
        p.pass(2);
        tells(p, 0, 0, 1, 0, 2, 1, -1, 1, 0, 0, 2, 1);
        p.post(0, 1, 0);
        p.pass(5);
        Check.wrongState("recall(0) of one recalled that has come", () -> p.recall(0));
        Check.wrongState("recall(1) of one that has come", () -> p.recall(1));
        p.post(0, 1, 0);
        p.recall(2);
        p.pass(5);
        Check.wrongState("recall(2) of one that is back", () -> p.recall(2));
    }

    private static void onlyWhereTheRecallIsKnown() {
        MountainPost p = Posts.level(3);
        p.build(0, 1, 2);
        p.addMule(0, 1, false);
        p.build(1, 2, 2);
        p.addMule(1, 1, true);
        p.setSight(0, 2, true);
        p.post(0, 2, 0);
        p.pass(1);
        p.recall(0);
        p.pass(2);
        tells(p, 0, 0, 2, 0, 0, 1, -1, 1, 0, 0, -1, 2);
        p.setSight(2, 1, true);
        p.setFog(0, true);
        p.pass(1);
        Check.due("it turned when the fire came to it", 1, () -> p.letter(0, 7));
        p.pass(10);
        tells(p, 0, 0, 2, 0, 3, 0, -1, 1, 1, 0, 5, 3);
    }

    private static void aComeLetterStaysWhereItIs() {
        MountainPost p = Posts.line(2);
        p.post(0, 1, 0);
        p.pass(1);
        p.recall(0);
        p.pass(3);
        p.setSight(0, 1, true);
        p.pass(3);
        tells(p, 0, 0, 1, 0, 2, 1, -1, 1, 0, 0, 2, 2);
        Check.due("count(8)", 0, () -> p.count(8));
    }

    /** A letter turned far from home is carried through the station to which it was to go, and waits there. */
    private static void aTurnedLetterPassesItsGoal() {
        MountainPost p = Posts.level(3);
        p.build(0, 1, 9);
        p.build(1, 2, 1);
        p.build(2, 0, 1);
        p.addMule(1, 1, true);
        p.addMule(0, 1, false);
        p.post(0, 2, 0);
        p.pass(1);
        p.addMule(2, 1, false);
        p.setSight(0, 1, true);
        p.recall(0);
        p.pass(9);
        Check.due("it turned at station 1", 1, () -> p.letter(0, 7));
        Check.due("the shortest way home leads by station 2", 1, () -> p.way(1, 0, 1));
        p.pass(1);
        Check.due("the mule of that road comes for it", 0, () -> p.letter(0, 5));
        p.pass(1);
        Check.due("and on", 2, () -> p.letter(0, 5));
        p.pass(1);
        tells(p, 0, 0, 2, 0, 3, 0, -1, 1, 1, 0, 12, 2);
    }

    private static void tells(MountainPost p, int letter, int... due) {
        for (int what = 0; what < due.length; what++) {
            int w = what;
            Check.due("letter(" + letter + ", " + w + ") at hour " + p.count(0), due[w], () -> p.letter(letter, w));
        }
    }
}
