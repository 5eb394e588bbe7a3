import java.math.BigInteger;
import java.util.ArrayList;
import java.util.List;

/** Promises 17 to 21: each sentence of the document that names a boundary case has a test here. */
final class AheadEdgesTest {
    private AheadEdgesTest() {
    }

    public static void main(String[] args) {
        foreseeNoLetter();
        hoursToForesee();
        noHourToForesee();
        threeHundredHoursToForesee();
        ifNothingElseIsDone();
        foreseenIsWhatWillBe();
        foreseeingChangesNothing();
        arrivalOfNoLetter();
        comesInAtMost300Hours();
        backInAtMost300Hours();
        theHourInWhichItDid();
        itWillNotCome();
        arrivalIsWhatWillBe();
        arrivingChangesNothing();
        hoursToAdvise();
        anHourToAdvise();
        fiftyHoursToAdvise();
        adviseWithTwelveMules();
        aLoadOfSix();
        atItsEndAOfNow();
        byWhateverMules();
        theSmallestRoadOfSeveral();
        notMoreThanWithoutIt();
        fewerThanWithoutIt();
        adviseWhereNothingIs();
        adviceIsWhatWouldBe();
        advisingChangesNothing();
        theMeanOfNone();
        theMeanIsOfThoseThatHaveCome();
        theMeanIsNotCut();
        theMeanOfManyHours();
        theDigestBegins();
        theDigestWrapsAround();
        theDigestOfAFullLand();
        Check.end();
    }

    // ---- promise 17

    private static void foreseeNoLetter() {
        Check.sentence("foresee: Throws `IndexOutOfBoundsException` if there is no such letter");
        MountainPost p = Posts.line(2);
        Posts.post(p, 2, 0, 1);
        for (int letter : Check.outside(0, 1)) {
            Check.outOfBounds("foresee(" + letter + ", 0)", () -> p.foresee(letter, 0));
            Check.outOfBounds("foresee(" + letter + ", 300)", () -> p.foresee(letter, 300));
        }
        Check.due("foresee(1, 300)", 2, () -> p.foresee(1, 300));
    }

    private static void hoursToForesee() {
        Check.sentence("Throws `IllegalArgumentException` if hours is not 0 to 300");
        MountainPost p = Posts.line(2);
        p.post(0, 1, 0);
        for (int hours : Check.outside(0, 300)) {
            Check.wrongArgument("foresee(0, " + hours + ")", () -> p.foresee(0, hours));
        }
        Check.due("the least", 0, () -> p.foresee(0, 0));
        Check.due("the most", 2, () -> p.foresee(0, 300));
    }

    private static void noHourToForesee() {
        Check.sentence("hours: how many, 0 to 300");
        MountainPost p = Posts.line(2);
        p.post(0, 1, 0);
        p.recall(0);
        Check.due("it waits", 0, () -> p.foresee(0, 0));
        Check.due("behind an hour it is back", 3, () -> p.foresee(0, 1));
        p.post(0, 1, 0);
        p.pass(1);
        Check.due("it is with a mule", 1, () -> p.foresee(1, 0));
        p.pass(2);
        Check.due("it has come", 2, () -> p.foresee(1, 0));
        Check.due("it is back", 3, () -> p.foresee(0, 0));
    }

    /** A mule of load 1 on a road of 13 hours brings the letter 11 in the hour 13 + 11 * 26. */
    private static void threeHundredHoursToForesee() {
        Check.sentence("Returns its state behind so many hours");
        MountainPost p = Posts.road(13);
        p.addMule(0, 1, false);
        Posts.post(p, 12, 0, 1);
        Check.due("foresee(11, 286)", 0, () -> p.foresee(11, 286));
        Check.due("foresee(11, 287): taken in the hour 286", 1, () -> p.foresee(11, 287));
        Check.due("foresee(11, 299): there in the hour 299", 1, () -> p.foresee(11, 299));
        Check.due("foresee(11, 300)", 2, () -> p.foresee(11, 300));
    }

    private static void ifNothingElseIsDone() {
        Check.sentence("if nothing else is done");
        MountainPost p = Posts.line(2);
        p.post(0, 1, 0);
        Check.due("foresee(0, 3)", 2, () -> p.foresee(0, 3));
        p.recall(0);
        Check.due("foresee(0, 3) of a recalled one", 3, () -> p.foresee(0, 3));
    }

    private static void foreseenIsWhatWillBe() {
        Check.sentence("Returns its state behind so many hours, if nothing else is done");
        MountainPost p = Posts.inTheMidst(12);
        for (int state = 0; state <= 3; state++) {
            int what = 5 + state;
            Check.due("there are letters in the state " + state, true, () -> p.count(what) > 0);
        }
        Check.due("letters have crossed", true, () -> p.count(9) > 0);
        for (int h = 1; h <= 60; h++) {
            int hours = h;
            MountainPost now = Posts.inTheMidst(12);
            MountainPost later = Posts.inTheMidst(12);
            later.pass(hours);
            for (int l = h % 3; l < 60; l += 3) {
                int letter = l;
                Check.due("foresee(" + letter + ", " + hours + ")", later.letter(letter, 3),
                    () -> now.foresee(letter, hours));
            }
        }
    }

    private static void foreseeingChangesNothing() {
        Check.sentence("0 to 3 as for letter() (nothing is changed)");
        MountainPost p = recalledAndPosted();
        long before = p.digest();
        for (int hours = 0; hours <= 300; hours += 20) {
            p.foresee(0, hours);
            p.foresee(3, hours);
        }
        Check.due("digest()", before, p::digest);
        Check.due("the hours then are those of another one", digestBehind(recalledAndPosted()), () -> digestBehind(p));
    }

    // ---- promise 18

    private static void arrivalOfNoLetter() {
        Check.sentence("arrives: Throws `IndexOutOfBoundsException` if there is no such letter");
        MountainPost p = Posts.line(2);
        Posts.post(p, 2, 0, 1);
        for (int letter : Check.outside(0, 1)) {
            Check.outOfBounds("arrives(" + letter + ")", () -> p.arrives(letter));
        }
        Check.due("arrives(1)", 2, () -> p.arrives(1));
    }

    private static void comesInAtMost300Hours() {
        Check.sentence("in which it will come .., in at most 300 hours from now on");
        MountainPost p = Posts.road(13);
        p.addMule(0, 1, false);
        Posts.post(p, 13, 0, 1);
        Check.due("in the 300th hour: arrives(11)", 299, () -> p.arrives(11));
        Check.due("in 325 hours: arrives(12)", -1, () -> p.arrives(12));
        p.pass(25);
        Check.due("in the 301st hour: arrives(12)", -1, () -> p.arrives(12));
        p.pass(1);
        Check.due("in the 300th hour: arrives(12)", 325, () -> p.arrives(12));
    }

    private static void backInAtMost300Hours() {
        Check.sentence("in which it will .. be back");
        MountainPost p = Posts.road(12);
        p.addMule(0, 1, false);
        p.post(0, 1, 0);
        p.recall(0);
        Check.due("in this hour: arrives(0)", 0, () -> p.arrives(0));
        p.pass(7);
        Check.due("in the hour 0, as it did", 0, () -> p.arrives(0));
        p.post(0, 1, 0);
        p.recall(1);
        Check.due("in the hour 7: arrives(1)", 7, () -> p.arrives(1));
        MountainPost q = Posts.line(3);
        q.setSight(0, 1, true);
        q.post(0, 2, 0);
        q.pass(1);
        q.recall(0);
        Check.due("turned on the way: arrives(0)", 4, () -> q.arrives(0));
    }

    private static void theHourInWhichItDid() {
        Check.sentence("that in which it did");
        MountainPost p = Posts.line(2);
        p.post(0, 1, 0);
        for (int i = 0; i < 4; i++) {
            p.pass(100);
        }
        Check.due("long ago: arrives(0)", 2, () -> p.arrives(0));
    }

    private static void itWillNotCome() {
        Check.sentence("-1 if it will not");
        MountainPost p = Posts.line(3);
        p.addStation(0);
        p.post(0, 3, 0);
        p.post(3, 0, 0);
        Check.due("no way there: arrives(0)", -1, () -> p.arrives(0));
        Check.due("no way from there: arrives(1)", -1, () -> p.arrives(1));
        p.pass(100);
        Check.due("still not: arrives(0)", -1, () -> p.arrives(0));
    }

    private static void arrivalIsWhatWillBe() {
        Check.sentence("Returns the hour (its number) in which it will come or be back, if nothing else is done");
        MountainPost p = Posts.inTheMidst(12);
        MountainPost later = Posts.inTheMidst(12);
        for (int i = 0; i < 3; i++) {
            later.pass(100);
        }
        for (int l = 0; l < 60; l++) {
            int letter = l;
            Check.due("arrives(" + letter + ")", later.letter(letter, 9), () -> p.arrives(letter));
        }
    }

    private static void arrivingChangesNothing() {
        Check.sentence("Returns the hour (its number) in which it will come or be back, if nothing else is done");
        MountainPost p = recalledAndPosted();
        long before = p.digest();
        for (int l = 0; l < 4; l++) {
            p.arrives(l);
        }
        Check.due("digest()", before, p::digest);
        Check.due("the hours then are those of another one", digestBehind(recalledAndPosted()), () -> digestBehind(p));
    }

    // ---- promise 19

    private static void hoursToAdvise() {
        Check.sentence("advise: Throws `IllegalArgumentException` if hours is not 1 to 50");
        MountainPost p = Posts.road(1);
        p.post(0, 1, 0);
        for (int hours : Check.outside(1, 50)) {
            Check.wrongArgument("advise(" + hours + ")", () -> p.advise(hours));
        }
        Check.due("the least", -1, () -> p.advise(1));
        Check.due("the most", 0, () -> p.advise(50));
    }

    private static void anHourToAdvise() {
        Check.sentence("would come in so many hours");
        MountainPost p = Posts.road(1);
        p.post(0, 1, 0);
        Check.due("none comes in an hour: advise(1)", -1, () -> p.advise(1));
        Check.due("one comes in two: advise(2)", 0, () -> p.advise(2));
    }

    /** The mule is at the letter in the hour 29, and with it at home in the hour 49. */
    private static void fiftyHoursToAdvise() {
        Check.sentence("in so many hours");
        MountainPost p = Posts.heights(0, 1800);
        p.build(0, 1, 20);
        p.post(1, 0, 0);
        Check.due("advise(49)", -1, () -> p.advise(49));
        Check.due("advise(50)", 0, () -> p.advise(50));
    }

    private static void adviseWithTwelveMules() {
        Check.sentence("Throws `IllegalStateException` if there are 12 mules");
        MountainPost p = Posts.road(1);
        p.build(0, 1, 2);
        for (int m = 0; m < 11; m++) {
            p.addMule(1, 1, true);
        }
        p.post(0, 1, 0);
        Check.due("with eleven: advise(2)", 0, () -> p.advise(2));
        p.addMule(1, 1, true);
        Check.wrongState("advise(2)", () -> p.advise(2));
        Check.wrongState("advise(50)", () -> p.advise(50));
    }

    private static void aLoadOfSix() {
        Check.sentence("if one more mule with a load of 6 were at its end a now");
        MountainPost p = Posts.level(3);
        p.build(0, 1, 1);
        p.build(0, 2, 1);
        Posts.post(p, 5, 0, 1);
        Posts.post(p, 6, 0, 2);
        Check.due("six are more than five: advise(2)", 1, () -> p.advise(2));
        p.post(0, 1, 0);
        p.post(0, 2, 0);
        Check.due("of seven it takes six: advise(2)", 0, () -> p.advise(2));
        Check.due("the seventh comes in the hour 3: advise(4)", 1, () -> p.advise(4));
    }

    private static void atItsEndAOfNow() {
        Check.sentence("were at its end a now");
        MountainPost p = Posts.level(2);
        p.build(1, 0, 3);
        p.build(0, 1, 3);
        p.post(0, 1, 0);
        Check.due("the road 0 has its end a at 1: advise(4)", 1, () -> p.advise(4));
        Check.due("it would be there in the hour 6: advise(6)", 1, () -> p.advise(6));
        Check.due("advise(7)", 0, () -> p.advise(7));
    }

    private static void byWhateverMules() {
        Check.sentence("the most letters in all (by whatever mules)");
        MountainPost p = Posts.level(4);
        p.build(0, 1, 1);
        p.build(1, 2, 1);
        p.build(3, 2, 1);
        p.addMule(1, 6, false);
        Posts.post(p, 2, 0, 2);
        p.post(3, 2, 0);
        Check.due("one by the new mule: advise(2)", 2, () -> p.advise(2));
        Check.due("two by the other one: advise(3)", 0, () -> p.advise(3));
    }

    private static void theSmallestRoadOfSeveral() {
        Check.sentence("of several the one with the smallest number");
        MountainPost p = Posts.level(2);
        for (int r = 0; r < 15; r++) {
            p.build(0, 1, r < 2 ? 9 : 1);
        }
        p.post(0, 1, 0);
        Check.due("thirteen bring it: advise(2)", 2, () -> p.advise(2));
        Check.due("all bring it: advise(10)", 0, () -> p.advise(10));
    }

    private static void notMoreThanWithoutIt() {
        Check.sentence("but none, if these are not more than without it");
        MountainPost p = Posts.line(2);
        p.post(0, 1, 0);
        p.post(0, 1, 0);
        p.recall(1);
        Check.due("as many: advise(50)", -1, () -> p.advise(50));
        Posts.post(p, 6, 0, 1);
        Check.due("more in six hours: advise(6)", 0, () -> p.advise(6));
        Check.due("as many in seven: advise(7)", -1, () -> p.advise(7));
    }

    /** The new road is shorter, but its mule is at the other end: the letter would wait for it. */
    private static void fewerThanWithoutIt() {
        Check.sentence("if these are not more");
        MountainPost p = Posts.road(5);
        p.build(1, 0, 4);
        p.addMule(0, 1, false);
        p.post(0, 1, 0);
        Check.due("advise(6)", -1, () -> p.advise(6));
        Check.due("advise(50)", -1, () -> p.advise(50));
    }

    private static void adviseWhereNothingIs() {
        Check.sentence("Returns this road (nothing is changed); -1 if none.");
        MountainPost p = new MountainPost();
        Check.due("without stations: advise(50)", -1, () -> p.advise(50));
        MountainPost q = Posts.level(2);
        q.post(0, 1, 0);
        Check.due("without roads: advise(50)", -1, () -> q.advise(50));
        MountainPost r = Posts.road(1);
        Check.due("without letters: advise(50)", -1, () -> r.advise(50));
    }

    private static void adviceIsWhatWouldBe() {
        Check.sentence("Looks for the road with which .. the most letters in all .. would come in so many hours");
        MountainPost p = Posts.inTheMidst(7);
        for (int h = 1; h <= 50; h++) {
            int hours = h;
            int due = -1;
            int most = Posts.inTheMidst(7).pass(hours);
            for (int road = 0; road < 15; road++) {
                MountainPost other = Posts.inTheMidst(7);
                other.addMule(road, 6, false);
                int come = other.pass(hours);
                if (come > most) {
                    most = come;
                    due = road;
                }
            }
            Check.due("advise(" + hours + ")", due, () -> p.advise(hours));
        }
    }

    private static void advisingChangesNothing() {
        Check.sentence("Returns this road (nothing is changed)");
        MountainPost p = recalledAndPosted();
        p.build(2, 0, 1);
        MountainPost q = recalledAndPosted();
        q.build(2, 0, 1);
        Check.due("a road without a mule: advise(3)", 2, () -> p.advise(3));
        Check.due("count(3)", 2, () -> p.count(3));
        Check.due("it still does not count: way(0, 2, 1)", 0, () -> p.way(0, 2, 1));
        Check.due("digest()", q.digest(), p::digest);
        Check.due("the hours then are those of another one", digestBehind(q), () -> digestBehind(p));
    }

    /** Letters that wait, are with a mule, have come and are back, and one that is recalled on its way. */
    private static MountainPost recalledAndPosted() {
        MountainPost p = Posts.line(3);
        Posts.chainOfSight(p, 3);
        p.post(0, 1, 0);
        p.post(0, 2, 5);
        p.post(0, 2, 1);
        p.recall(2);
        p.pass(3);
        p.recall(1);
        Posts.post(p, 7, 2, 0);
        Posts.post(p, 8, 0, 2);
        return p;
    }

    private static long digestBehind(MountainPost p) {
        long digests = 0;
        for (int hour = 0; hour < 30; hour++) {
            p.pass(1);
            digests = digests * 31 + p.digest();
        }
        return digests;
    }

    // ---- promise 20

    private static void theMeanOfNone() {
        Check.sentence("0 if none has");
        MountainPost p = Posts.line(2);
        Check.due("without letters", 0.0, p::mean);
        p.post(0, 1, 0);
        p.post(0, 1, 0);
        p.recall(0);
        Check.due("with one that waits", 0.0, p::mean);
        p.pass(2);
        Check.due("with one on its way and one that is back", 0.0, p::mean);
        p.pass(1);
        Check.due("with one that has come", 2.0, p::mean);
    }

    private static void theMeanIsOfThoseThatHaveCome() {
        Check.sentence("which have come (from the hour when they were posted to that in which they came)");
        MountainPost p = Posts.line(3);
        Posts.chainOfSight(p, 3);
        p.pass(50);
        p.post(0, 1, 0);
        p.post(0, 2, 0);
        p.pass(1);
        p.recall(1);
        p.pass(50);
        Check.due("the other one is back: count(8)", 1, () -> p.count(8));
        Check.due("mean()", 2.0, p::mean);
    }

    private static void theMeanIsNotCut() {
        Check.sentence("Returns the mean of the hours");
        MountainPost p = Posts.line(2);
        Posts.post(p, 12, 0, 1);
        p.post(1, 0, 0);
        p.pass(100);
        // Six in 2 hours, the one back in 4, six in 6.
        Check.due("mean()", (6 * 2 + 4 + 6 * 6) / 13.0, p::mean);
    }

    private static void theMeanOfManyHours() {
        Check.sentence("An object is used for at most 512 calls");
        MountainPost p = Posts.road(20);
        Posts.post(p, 60, 0, 1);
        for (int i = 0; i < 430; i++) {
            p.pass(100);
        }
        for (int m = 0; m < 10; m++) {
            p.addMule(0, 6, false);
        }
        Check.due("all in the hour 43020: pass(21)", 60, () -> p.pass(21));
        Check.due("mean()", 43020.0, p::mean);
    }

    // ---- promise 21

    private static void theDigestBegins() {
        Check.sentence("A number d starts with 547");
        long d = 547;
        for (int i = 0; i < 10; i++) {
            d *= 31;
        }
        Check.due("digest() of a new one", d, () -> new MountainPost().digest());
    }

    private static void theDigestWrapsAround() {
        Check.sentence("d becomes d * 31 + x, which wraps around as a 64-bit integer");
        digestIsDue("without stations, where ten numbers do not wrap around", MountainPost::new);
        for (int s = 1; s <= 10; s++) {
            int stations = s;
            digestIsDue("with stations: " + stations, () -> Posts.level(stations));
        }
    }

    private static void theDigestOfAFullLand() {
        Check.sentence("for each of the following numbers x");
        digestIsDue("with all that there can be", Posts::full);
        digestIsDue("in the midst of it", () -> Posts.inTheMidst(12));
        digestIsDue("with fewer mules", () -> Posts.inTheMidst(7));
        digestIsDue("in the end", () -> {
            MountainPost p = Posts.inTheMidst(12);
            p.pass(100);
            return p;
        });
    }

    /** Makes the same land again and again, as one object does not answer all these questions in 512 calls. */
    private interface Maker {
        MountainPost make();
    }

    /** Compares digest() with what the other calls tell: in numbers without a bound, in the end cut to 64 bits. */
    private static void digestIsDue(String land, Maker maker) {
        MountainPost p = maker.make();
        List<Integer> numbers = new ArrayList<>();
        for (int what = 0; what <= 9; what++) {
            numbers.add(p.count(what));
        }
        for (int s = 0; s < p.count(1); s++) {
            for (int what = 0; what <= 4; what++) {
                numbers.add(p.station(s, what));
            }
        }
        MountainPost q = maker.make();
        for (int r = 0; r < p.count(2); r++) {
            for (int what = 0; what <= 5; what++) {
                numbers.add(q.road(r, what));
            }
        }
        for (int m = 0; m < p.count(3); m++) {
            for (int what = 0; what <= 5; what++) {
                numbers.add(q.mule(m, what));
            }
        }
        for (int l = 0; l < p.count(4); l++) {
            MountainPost ofLetters = maker.make();
            for (int what = 0; what <= 10; what++) {
                numbers.add(ofLetters.letter(l, what));
            }
        }
        BigInteger due = BigInteger.valueOf(547);
        for (int number : numbers) {
            due = due.multiply(BigInteger.valueOf(31)).add(BigInteger.valueOf(number));
        }
        Check.due("digest() of one " + land, due.longValue(), () -> maker.make().digest());
    }
}
