import java.util.ArrayList;
import java.util.List;

/** What holds for all calls: which exception comes first, that a refused call changes nothing, and 512 calls. */
final class RefusalsTest {
    /** A call that is to be refused, in words and to be made. */
    private record Refused(String call, Check.Call made) {
    }

    private RefusalsTest() {
    }

    public static void main(String[] args) {
        firstOfAddStation();
        firstOfSetSight();
        firstOfBuild();
        firstOfAddMule();
        firstOfPost();
        firstOfRecall();
        firstOfForesee();
        firstOfAdvise();
        refusedCallsChangeNothing();
        refusedCallsOfAFullLandChangeNothing();
        questionsChangeNothing();
        fiveHundredAndTwelveCalls();
        laterCallsEndToo();
        Check.end();
    }

    // ---- the exception that is named first

    private static void firstOfAddStation() {
        Check.sentence("addStation: If several exceptions apply, the one that is named first is thrown.");
        MountainPost p = Posts.level(10);
        for (int height : Check.outside(0, 4000)) {
            Check.wrongArgument("too high or too low, and full: " + height, () -> p.addStation(height));
        }
        Check.wrongState("only full", () -> p.addStation(0));
    }

    private static void firstOfSetSight() {
        Check.sentence("setSight: If several exceptions apply, the one that is named first is thrown.");
        MountainPost p = Posts.level(2);
        for (int station : Check.outside(0, 1)) {
            Check.outOfBounds("no station, and the same: " + station, () -> p.setSight(station, station, true));
        }
        Check.wrongArgument("only the same", () -> p.setSight(1, 1, true));
    }

    private static void firstOfBuild() {
        Check.sentence("build: If several exceptions apply, the one that is named first is thrown.");
        MountainPost p = Posts.level(2);
        Check.outOfBounds("no station, and the same", () -> p.build(2, 2, 1));
        Check.outOfBounds("no station, and too long", () -> p.build(0, 2, 21));
        Check.outOfBounds("no station, and too short", () -> p.build(-1, 0, 0));
        for (int r = 0; r < 15; r++) {
            p.build(0, 1, 1);
        }
        Check.outOfBounds("no station, and full", () -> p.build(0, 2, 1));
        Check.outOfBounds("no station, the same, too long, and full", () -> p.build(2, 2, 21));
        Check.wrongArgument("the same, and full", () -> p.build(0, 0, 1));
        Check.wrongArgument("too long, and full", () -> p.build(0, 1, 21));
        Check.wrongArgument("too short, and full", () -> p.build(0, 1, 0));
        Check.wrongState("only full", () -> p.build(0, 1, 1));
    }

    private static void firstOfAddMule() {
        Check.sentence("addMule: If several exceptions apply, the one that is named first is thrown.");
        MountainPost p = Posts.road(1);
        Check.outOfBounds("no road, and a load of 0", () -> p.addMule(1, 0, true));
        Check.outOfBounds("no road, and a load of 7", () -> p.addMule(-1, 7, true));
        for (int m = 0; m < 12; m++) {
            p.addMule(0, 1, false);
        }
        Check.outOfBounds("no road, and full", () -> p.addMule(1, 1, false));
        Check.outOfBounds("no road, a load of 7, and full", () -> p.addMule(1, 7, false));
        Check.wrongArgument("a load of 0, and full", () -> p.addMule(0, 0, false));
        Check.wrongArgument("a load of 7, and full", () -> p.addMule(0, 7, false));
        Check.wrongState("only full", () -> p.addMule(0, 1, false));
    }

    private static void firstOfPost() {
        Check.sentence("post: If several exceptions apply, the one that is named first is thrown.");
        MountainPost p = Posts.level(2);
        Check.outOfBounds("no station, and the same", () -> p.post(2, 2, 0));
        Check.outOfBounds("no station, and too urgent", () -> p.post(0, 2, 10));
        Check.outOfBounds("no station, and not urgent enough", () -> p.post(-1, 0, -1));
        Posts.post(p, 60, 0, 1);
        Check.outOfBounds("no station, and full", () -> p.post(2, 0, 0));
        Check.outOfBounds("no station, the same, too urgent, and full", () -> p.post(-1, -1, 10));
        Check.wrongArgument("the same, and full", () -> p.post(1, 1, 0));
        Check.wrongArgument("too urgent, and full", () -> p.post(0, 1, 10));
        Check.wrongArgument("not urgent enough, and full", () -> p.post(0, 1, -1));
        Check.wrongState("only full", () -> p.post(0, 1, 0));
    }

    private static void firstOfRecall() {
        Check.sentence("recall: If several exceptions apply, the one that is named first is thrown.");
        MountainPost p = Posts.level(2);
        p.post(0, 1, 0);
        p.recall(0);
        Check.outOfBounds("no letter, behind one that was recalled", () -> p.recall(1));
        Check.wrongState("it was recalled", () -> p.recall(0));
        p.pass(1);
        Check.wrongState("it was recalled, and is back", () -> p.recall(0));
    }

    private static void firstOfForesee() {
        Check.sentence("foresee: If several exceptions apply, the one that is named first is thrown.");
        MountainPost p = Posts.level(2);
        p.post(0, 1, 0);
        Check.outOfBounds("no letter, and too few hours", () -> p.foresee(1, -1));
        Check.outOfBounds("no letter, and too many hours", () -> p.foresee(-1, 301));
        Check.wrongArgument("only too few hours", () -> p.foresee(0, -1));
        Check.wrongArgument("only too many hours", () -> p.foresee(0, 301));
    }

    private static void firstOfAdvise() {
        Check.sentence("advise: If several exceptions apply, the one that is named first is thrown.");
        MountainPost p = Posts.road(1);
        for (int m = 0; m < 12; m++) {
            p.addMule(0, 1, false);
        }
        for (int hours : Check.outside(1, 50)) {
            Check.wrongArgument("wrong hours, and twelve mules: " + hours, () -> p.advise(hours));
        }
        Check.wrongState("only twelve mules", () -> p.advise(1));
    }

    // ---- what changes nothing

    private static void refusedCallsChangeNothing() {
        Check.sentence("A method that throws an exception changes nothing.");
        MountainPost p = someTraffic();
        MountainPost twin = someTraffic();
        refuse(refusedCalls(p));
        sameAsTwin(p, twin);
        Check.due("the next station", 4, () -> p.addStation(0));
        Check.due("the next road", 3, () -> p.build(0, 4, 1));
        Check.due("the next mule", 4, () -> p.addMule(3, 1, false));
        Check.due("the next letter", 7, () -> p.post(0, 4, 0));
    }

    private static void refusedCallsOfAFullLandChangeNothing() {
        Check.sentence("A method that throws an exception changes nothing.");
        MountainPost p = Posts.full();
        MountainPost twin = Posts.full();
        p.recall(3);
        twin.recall(3);
        List<Refused> calls = refusedCalls(p);
        calls.add(new Refused("addStation(4000)", () -> p.addStation(4000)));
        calls.add(new Refused("build(0, 1, 20)", () -> p.build(0, 1, 20)));
        calls.add(new Refused("addMule(14, 6, true)", () -> p.addMule(14, 6, true)));
        calls.add(new Refused("post(0, 1, 9)", () -> p.post(0, 1, 9)));
        calls.add(new Refused("recall(3)", () -> p.recall(3)));
        calls.add(new Refused("advise(50)", () -> p.advise(50)));
        refuse(calls);
        sameAsTwin(p, twin);
    }

    /** Letters that wait, are with mules, and are recalled; roads with mules and one without. */
    private static MountainPost someTraffic() {
        MountainPost p = Posts.line(3);
        p.addStation(900);
        p.build(2, 3, 1);
        p.addMule(1, 1, true);
        p.addMule(0, 2, true);
        Posts.chainOfSight(p, 4);
        p.setFog(3, true);
        p.post(0, 2, 0);
        p.post(2, 0, 9);
        Posts.post(p, 4, 1, 2);
        p.post(0, 3, 5);
        p.pass(1);
        p.recall(0);
        return p;
    }

    /** Calls with something wrong, each otherwise such that it would change the land. */
    private static List<Refused> refusedCalls(MountainPost p) {
        List<Refused> calls = new ArrayList<>();
        int stations = p.count(1);
        for (int height : Check.outside(0, 4000)) {
            calls.add(new Refused("addStation(" + height + ")", () -> p.addStation(height)));
        }
        for (int s : Check.outside(0, stations - 1)) {
            calls.add(new Refused("setSight(" + s + ", 0, true)", () -> p.setSight(s, 0, true)));
            calls.add(new Refused("setSight(0, " + s + ", false)", () -> p.setSight(0, s, false)));
            calls.add(new Refused("setFog(" + s + ", true)", () -> p.setFog(s, true)));
            calls.add(new Refused("build(" + s + ", 0, 1)", () -> p.build(s, 0, 1)));
            calls.add(new Refused("build(0, " + s + ", 1)", () -> p.build(0, s, 1)));
            calls.add(new Refused("post(" + s + ", 0, 9)", () -> p.post(s, 0, 9)));
            calls.add(new Refused("post(0, " + s + ", 9)", () -> p.post(0, s, 9)));
            calls.add(new Refused("station(" + s + ", 0)", () -> p.station(s, 0)));
            calls.add(new Refused("way(" + s + ", 0, 0)", () -> p.way(s, 0, 0)));
            calls.add(new Refused("fire(0, " + s + ")", () -> p.fire(0, s)));
        }
        calls.add(new Refused("setSight(0, 0, true)", () -> p.setSight(0, 0, true)));
        calls.add(new Refused("build(0, 0, 1)", () -> p.build(0, 0, 1)));
        calls.add(new Refused("post(0, 0, 9)", () -> p.post(0, 0, 9)));
        for (int length : Check.outside(1, 20)) {
            calls.add(new Refused("build(0, 1, " + length + ")", () -> p.build(0, 1, length)));
        }
        for (int road : Check.outside(0, p.count(2) - 1)) {
            calls.add(new Refused("addMule(" + road + ", 6, true)", () -> p.addMule(road, 6, true)));
            calls.add(new Refused("road(" + road + ", 0)", () -> p.road(road, 0)));
        }
        for (int load : Check.outside(1, 6)) {
            calls.add(new Refused("addMule(2, " + load + ", true)", () -> p.addMule(2, load, true)));
        }
        for (int mule : Check.outside(0, p.count(3) - 1)) {
            calls.add(new Refused("mule(" + mule + ", 0)", () -> p.mule(mule, 0)));
        }
        for (int urgency : Check.outside(0, 9)) {
            calls.add(new Refused("post(0, 1, " + urgency + ")", () -> p.post(0, 1, urgency)));
        }
        for (int letter : Check.outside(0, p.count(4) - 1)) {
            calls.add(new Refused("recall(" + letter + ")", () -> p.recall(letter)));
            calls.add(new Refused("letter(" + letter + ", 0)", () -> p.letter(letter, 0)));
            calls.add(new Refused("foresee(" + letter + ", 1)", () -> p.foresee(letter, 1)));
            calls.add(new Refused("arrives(" + letter + ")", () -> p.arrives(letter)));
        }
        for (int letter = 0; letter < 4; letter++) {
            int ended = letter;
            if (p.letter(ended, 3) >= 2 || p.letter(ended, 6) == 1) {
                calls.add(new Refused("recall(" + ended + ")", () -> p.recall(ended)));
            }
        }
        for (int hours : Check.outside(1, 100)) {
            calls.add(new Refused("pass(" + hours + ")", () -> p.pass(hours)));
            calls.add(new Refused("advise(" + hours + ")", () -> p.advise(hours)));
        }
        for (int hours : Check.outside(0, 300)) {
            calls.add(new Refused("foresee(0, " + hours + ")", () -> p.foresee(0, hours)));
        }
        return calls;
    }

    private static void refuse(List<Refused> calls) {
        for (Refused call : calls) {
            String answer = Check.outcome(call.made());
            boolean isRefused = answer.equals("throws IndexOutOfBoundsException")
                || answer.equals("throws IllegalArgumentException") || answer.equals("throws IllegalStateException");
            Check.due(call.call() + ", which answered " + answer + ", is refused", true, () -> isRefused);
        }
    }

    /** Compares what both tell, also of ways, fires and what is ahead; then hours go by for both. */
    private static void sameAsTwin(MountainPost p, MountainPost twin) {
        Check.due("digest()", twin.digest(), p::digest);
        Check.due("ways and fires", waysAndFires(twin), () -> waysAndFires(p));
        Check.due("what is ahead", ahead(twin), () -> ahead(p));
        Check.due("mean()", twin.mean(), p::mean);
        for (int hour = 0; hour < 20; hour++) {
            int come = twin.pass(1);
            Check.due("pass(1)", come, () -> p.pass(1));
            Check.due("digest() then", twin.digest(), p::digest);
        }
    }

    /** Only some of them: an object is used for 512 calls. */
    private static String waysAndFires(MountainPost p) {
        StringBuilder told = new StringBuilder();
        int stations = p.count(1);
        for (int from = 0; from < stations; from++) {
            for (int to = from + 1; to <= from + 2; to++) {
                told.append(p.way(from, to % stations, 0)).append(' ');
                told.append(p.way(to % stations, from, 1)).append(' ');
                told.append(p.fire(from, to % stations)).append(' ');
            }
        }
        return told.toString();
    }

    private static String ahead(MountainPost p) {
        StringBuilder told = new StringBuilder();
        for (int letter = 0; letter < p.count(4); letter += 1 + letter / 7) {
            told.append(p.arrives(letter)).append(' ').append(p.foresee(letter, 9)).append(' ');
        }
        if (p.count(3) < 12) {
            told.append(p.advise(9));
        }
        return told.toString();
    }

    private static void questionsChangeNothing() {
        Check.sentence("Nothing is promised beyond the answers and state changes described above");
        MountainPost p = someTraffic();
        MountainPost twin = someTraffic();
        for (int hour = 0; hour < 4; hour++) {
            waysAndFires(p);
            ahead(p);
            p.mean();
            p.digest();
            int now = hour + 1;
            Check.due("count(0)", now, () -> p.count(0));
            Check.due("digest()", twin.digest(), p::digest);
            int come = twin.pass(1);
            Check.due("pass(1)", come, () -> p.pass(1));
        }
    }

    // ---- 512 calls

    private static void fiveHundredAndTwelveCalls() {
        Check.sentence("An object is used for at most 512 calls after it has been made");
        MountainPost p = new MountainPost();
        for (int call = 0; call < 510; call++) {
            p.pass(100);
        }
        Check.due("the 511th call", 51000, () -> p.count(0));
        Check.due("the 512th call", 0, () -> p.pass(100));
        MountainPost q = Posts.line(2);
        q.post(0, 1, 0);
        for (int n = 6; n <= 510; n++) {
            int call = n;
            Check.due("call " + call, 2, () -> q.arrives(0));
        }
        Check.due("the 511th call", 1, () -> q.pass(3));
        Check.due("the 512th call", 2, () -> q.letter(0, 3));
    }

    /** Their answers are free, but LANGUAGE.md's rule 7 has no end: no call may throw by itself or go on for ever. */
    private static void laterCallsEndToo() {
        Check.sentence("what later calls answer is free");
        MountainPost p = Posts.full();
        for (int call = 0; call < 5000; call++) {
            p.pass(100);
        }
        Check.due("all calls that are right still answer", true, () -> {
            p.digest();
            p.mean();
            waysAndFires(p);
            ahead(p);
            return true;
        });
    }
}
