/** Promises 13 and 14, and the steps of an hour. */
final class HoursTest {
    private HoursTest() {
    }

    public static void main(String[] args) {
        wrongHours();
        comeNotBack();
        mostUrgentFirst();
        muleComesForALetter();
        mulesOneAfterTheOther();
        crossesInTheSameHour();
        crossesWithOneAhead();
        crossesOnlyAnswers();
        noCrossInTheSameDirectionOrOnAnotherRoad();
        turnedLettersCrossToo();
        counts();
        Check.end();
    }

    private static void wrongHours() {
        MountainPost p = Posts.level(2);
        Check.wrongArgument("pass(0)", () -> p.pass(0));
        Check.wrongArgument("pass(-1)", () -> p.pass(-1));
        Check.wrongArgument("pass(101)", () -> p.pass(101));
        Check.due("count(0)", 0, () -> p.count(0));
        Check.due("pass(100)", 0, () -> p.pass(100));
        Check.due("pass(1)", 0, () -> p.pass(1));
        Check.due("count(0) then", 101, () -> p.count(0));
        Check.outOfBounds("count(10)", () -> p.count(10));
        Check.outOfBounds("count(-1)", () -> p.count(-1));
    }

    private static void comeNotBack() {
        MountainPost p = Posts.level(2);
        p.build(0, 1, 1);
        p.addMule(0, 6, false);
        p.post(0, 1, 0);
        p.post(0, 1, 0);
        p.post(0, 1, 0);
        p.recall(1);
        Check.due("pass(1)", 0, () -> p.pass(1));
        Check.due("pass(1) more", 2, () -> p.pass(1));
        Check.due("pass(1) once more", 0, () -> p.pass(1));
        Check.due("come", 2, () -> p.count(7));
        Check.due("back", 1, () -> p.count(8));
    }

    private static void mostUrgentFirst() {
        MountainPost p = Posts.level(2);
        p.build(0, 1, 1);
        p.addMule(0, 2, false);
        int[] urgencies = {3, 5, 0, 5, 9, 5};
        for (int urgency : urgencies) {
            p.post(0, 1, urgency);
        }
        p.pass(100);
        int[] due = {5, 1, 5, 3, 1, 3};
        for (int i = 0; i < due.length; i++) {
            int letter = i;
            Check.due("letter(" + letter + ", 9) by urgency", due[letter], () -> p.letter(letter, 9));
        }
    }

    private static void muleComesForALetter() {
        MountainPost p = Posts.level(3);
        p.build(0, 1, 3);
        p.build(1, 2, 3);
        p.addMule(0, 1, false);
        p.post(1, 2, 0);
        p.pass(5);
        Check.due("without a way no mule stirs", 0, () -> p.mule(0, 5));
        p.addMule(1, 1, true);
        p.pass(1);
        Check.due("the mule of the road sets out empty", 3, () -> p.mule(1, 3));
        Check.due("with no letter", 0, () -> p.mule(1, 4));
        Check.due("the other one stays", 0, () -> p.mule(0, 3));
        Check.due("it comes", 1, () -> p.pass(6));
        Check.due("at hour", 11, () -> p.letter(0, 9));
        p.pass(50);
        Check.due("then it stays", 6, () -> p.mule(1, 5));
    }

    /** Mule 0 has a reason to set out, as the letter still waits; mule 2 has none any more. */
    private static void mulesOneAfterTheOther() {
        MountainPost p = Posts.level(2);
        p.build(0, 1, 2);
        p.addMule(0, 1, false);
        p.addMule(0, 1, true);
        p.addMule(0, 1, false);
        p.post(1, 0, 0);
        p.pass(1);
        Check.due("mule 0 set out", 2, () -> p.mule(0, 3));
        Check.due("mule 1 has the letter", 1, () -> p.mule(1, 4));
        Check.due("mule 2 stays", 0, () -> p.mule(2, 3));
        Check.due("road(0, 5)", 2, () -> p.road(0, 5));
    }

    private static void crossesInTheSameHour() {
        MountainPost p = Posts.level(2);
        p.build(0, 1, 5);
        p.addMule(0, 6, false);
        p.addMule(0, 6, true);
        for (int i = 0; i < 3; i++) {
            p.post(0, 1, 0);
        }
        p.post(1, 0, 0);
        p.post(1, 0, 0);
        p.pass(1);
        Check.due("three letters and two answers", 6, () -> p.count(9));
        p.pass(50);
        Check.due("and not again", 6, () -> p.count(9));
    }

    /** The answer set out from station 1 in the hour 0, on a road of 3 hours: it is there in step 1 of the hour 3. */
    private static void crossesWithOneAhead() {
        for (int wait = 1; wait <= 4; wait++) {
            int hour = wait;
            MountainPost p = Posts.level(2);
            p.build(0, 1, 3);
            p.addMule(0, 6, true);
            p.addMule(0, 6, false);
            p.post(1, 0, 0);
            p.pass(1);
            Check.due("mule 1 has no reason to set out", 0, () -> p.mule(1, 3));
            if (hour > 1) {
                p.pass(hour - 1);
            }
            p.post(0, 1, 0);
            p.post(0, 1, 0);
            p.pass(1);
            Check.due("crosses, if two set out in the hour " + hour, hour < 3 ? 2 : 0, () -> p.count(9));
        }
    }

    private static void crossesOnlyAnswers() {
        MountainPost p = Posts.level(3);
        p.build(0, 1, 3);
        p.build(1, 2, 3);
        p.addMule(0, 6, false);
        p.addMule(0, 6, true);
        p.addMule(1, 6, true);
        p.post(0, 2, 0);
        p.post(1, 0, 0);
        p.pass(1);
        Check.due("from 0 to 2 and from 1 to 0", 0, () -> p.count(9));
        p.pass(20);
        p.post(2, 0, 0);
        p.pass(4);
        Check.due("the one from 2 to 0 is on the road 0", 1, () -> p.letter(2, 3));
        p.post(0, 2, 0);
        p.pass(1);
        Check.due("from 2 to 0 and from 0 to 2", 1, () -> p.count(9));
    }

    private static void noCrossInTheSameDirectionOrOnAnotherRoad() {
        MountainPost p = Posts.level(2);
        p.build(0, 1, 2);
        p.build(0, 1, 2);
        p.addMule(1, 6, true);
        p.post(1, 0, 0);
        p.pass(1);
        Check.due("it goes by the only road that counts", 1, () -> p.letter(0, 3));
        p.addMule(0, 1, false);
        p.addMule(0, 1, false);
        p.post(0, 1, 0);
        p.post(0, 1, 0);
        p.pass(1);
        Check.due("both of the others go by road 0", 2, () -> p.road(0, 5));
        Check.due("and cross nothing", 0, () -> p.count(9));
    }

    /** Two answers cross on the middle road, are turned at its ends, and cross there once more. */
    private static void turnedLettersCrossToo() {
        MountainPost p = Posts.level(4);
        for (int road = 0; road < 3; road++) {
            p.build(road, road + 1, 2);
        }
        p.addMule(0, 1, false);
        p.addMule(1, 1, false);
        p.addMule(1, 1, true);
        p.addMule(2, 1, true);
        p.setSight(0, 2, true);
        p.setSight(3, 1, true);
        p.post(0, 3, 0);
        p.post(3, 0, 0);
        p.pass(3);
        Check.due("they crossed", 1, () -> p.count(9));
        p.recall(0);
        p.recall(1);
        p.pass(2);
        Check.due("letter 0 turned", 1, () -> p.letter(0, 7));
        Check.due("letter 1 turned", 1, () -> p.letter(1, 7));
        Check.due("they crossed again", 2, () -> p.count(9));
        p.pass(20);
        Check.due("both are back", 2, () -> p.count(8));
        Check.due("and crossed no more", 2, () -> p.count(9));
    }

    private static void counts() {
        MountainPost p = Posts.level(3);
        p.build(0, 1, 2);
        p.addMule(0, 1, false);
        p.post(0, 1, 1);
        p.post(0, 1, 0);
        p.post(0, 2, 9);
        p.post(1, 0, 0);
        p.recall(2);
        countsAre(p, 0, 3, 1, 1, 4, 4, 0, 0, 0, 0);
        p.pass(1);
        countsAre(p, 1, 3, 1, 1, 4, 2, 1, 0, 1, 0);
        p.pass(2);
        countsAre(p, 3, 3, 1, 1, 4, 1, 1, 1, 1, 0);
        p.pass(20);
        countsAre(p, 23, 3, 1, 1, 4, 0, 0, 3, 1, 0);
        Check.due("mean()", (2 + 6 + 4) / 3.0, p::mean);
    }

    private static void countsAre(MountainPost p, int... due) {
        for (int what = 0; what < due.length; what++) {
            int w = what;
            Check.due("count(" + w + ") at hour " + due[0], due[w], () -> p.count(w));
        }
    }
}
