import java.util.ArrayList;
import java.util.List;
import java.util.Random;

/** Compares the program with the plain reference on many runs of calls: promises 1 to 21, wrong inputs among them. */
final class ManyRunsTest {
    private static final int RUNS = 600;
    private static final int CALLS = 120;
    /** The calls by which letters meet, cross, and are turned on their way: the others only ask. */
    private static final int[] STIRRING = {2, 8, 9, 10, 10, 12, 13};

    private MountainPost post = new MountainPost();
    private ReferencePost reference = new ReferencePost();
    private final Random random;
    private final boolean isLine;
    private final List<String> calls = new ArrayList<>();

    private ManyRunsTest(long seed) {
        random = new Random(seed);
        isLine = seed % 2 == 1;
    }

    public static void main(String[] args) {
        for (int run = 0; run < RUNS; run++) {
            if (!new ManyRunsTest(run).agrees()) {
                System.out.println("run " + run);
                System.exit(1);
            }
        }
    }

    private boolean agrees() {
        if (isLine) {
            settleInALine();
        } else {
            settle();
        }
        for (int c = 0; c < CALLS; c++) {
            if (!agreesOn(nextKind()) || !same("digest()", post::digest, reference::digest)) {
                calls.forEach(System.out::println);
                return false;
            }
        }
        return true;
    }

    private int nextKind() {
        boolean isStirring = isLine && random.nextInt(4) > 0;
        return isStirring ? STIRRING[random.nextInt(STIRRING.length)] : random.nextInt(21);
    }

    /** Few stations with many roads, mules and letters between them, so that letters meet, cross and are recalled. */
    private void settle() {
        int stations = 2 + random.nextInt(random.nextBoolean() ? 2 : 9);
        for (int i = 0; i < stations; i++) {
            int height = random.nextInt(random.nextBoolean() ? 4001 : 900);
            same("addStation", () -> post.addStation(height), () -> reference.addStation(height));
        }
        int density = 1 + random.nextInt(6);
        for (int i = 0; i < stations * density; i++) {
            agreesOn(1);
            agreesOn(3);
            agreesOn(4);
            agreesOn(9);
        }
    }

    /** A line of roads with mules at both ends: letters go far, so that fires meet them on their way. */
    private void settleInALine() {
        int stations = 3 + random.nextInt(3);
        for (int i = 0; i < stations; i++) {
            int height = random.nextInt(900);
            same("addStation", () -> post.addStation(height), () -> reference.addStation(height));
        }
        for (int i = 0; i + 1 < stations; i++) {
            int here = i;
            int length = 1 + random.nextInt(4);
            same("build", () -> post.build(here, here + 1, length), () -> reference.build(here, here + 1, length));
            same("setSight", () -> post.setSight(here, here + 1, true), () -> reference.setSight(here, here + 1, true));
        }
        for (int i = 0; i < 3 * (stations - 1); i++) {
            int road = i % (stations - 1);
            int load = 1 + random.nextInt(3);
            boolean isAtB = random.nextBoolean();
            same("addMule", () -> post.addMule(road, load, isAtB), () -> reference.addMule(road, load, isAtB));
        }
    }

    /** A number from 0 to below the bound mostly, and one outside now and then. */
    private int number(int bound) {
        int kind = random.nextInt(40);
        if (kind == 0) {
            return -1 - random.nextInt(2);
        }
        if (kind == 1) {
            return bound + random.nextInt(2);
        }
        if (kind == 2) {
            return random.nextInt();
        }
        return random.nextInt(Math.max(1, bound));
    }

    private int aStation() {
        return number(reference.stations.size());
    }

    private boolean agreesOn(int kind) {
        int s = aStation();
        int t = aStation();
        int letter = number(reference.letters.size());
        boolean yes = random.nextBoolean();
        switch (kind) {
            case 0: {
                // Mostly a wrong one: otherwise all runs would soon have ten stations.
                int height = random.nextInt(9) == 0 ? number(4001) : -1;
                return same("addStation(" + height + ")",
                    () -> post.addStation(height), () -> reference.addStation(height));
            }
            case 1: {
                boolean seen = random.nextInt(5) > 0;
                return same("setSight(" + s + ", " + t + ", " + seen + ")",
                    () -> post.setSight(s, t, seen), () -> reference.setSight(s, t, seen));
            }
            case 2: {
                boolean foggy = random.nextInt(3) == 0;
                return same("setFog(" + s + ", " + foggy + ")",
                    () -> post.setFog(s, foggy), () -> reference.setFog(s, foggy));
            }
            case 3: {
                int length = random.nextInt(4) > 0 ? 1 + random.nextInt(4) : number(21);
                return same("build(" + s + ", " + t + ", " + length + ")",
                    () -> post.build(s, t, length), () -> reference.build(s, t, length));
            }
            case 4: {
                int road = number(reference.roads.size());
                int load = random.nextInt(4) > 0 ? 1 + random.nextInt(2) : number(7);
                return same("addMule(" + road + ", " + load + ", " + yes + ")",
                    () -> post.addMule(road, load, yes), () -> reference.addMule(road, load, yes));
            }
            case 5: {
                int what = number(5);
                return same("station(" + s + ", " + what + ")",
                    () -> post.station(s, what), () -> reference.station(s, what));
            }
            case 6: {
                int road = number(reference.roads.size());
                int what = number(6);
                return same("road(" + road + ", " + what + ")",
                    () -> post.road(road, what), () -> reference.road(road, what));
            }
            case 7: {
                int mule = number(reference.mules.size());
                int what = number(6);
                return same("mule(" + mule + ", " + what + ")",
                    () -> post.mule(mule, what), () -> reference.mule(mule, what));
            }
            case 8:
            case 9: {
                int urgency = number(10);
                boolean isFar = isLine && random.nextInt(4) > 0;
                int last = reference.stations.size() - 1;
                int from = isFar ? (yes ? last : 0) : s;
                int to = isFar ? last - from : t;
                return same("post(" + from + ", " + to + ", " + urgency + ")",
                    () -> post.post(from, to, urgency), () -> reference.post(from, to, urgency));
            }
            case 10:
                return same("recall(" + letter + ")", () -> post.recall(letter), () -> reference.recall(letter));
            case 11: {
                int what = number(11);
                return same("letter(" + letter + ", " + what + ")",
                    () -> post.letter(letter, what), () -> reference.letter(letter, what));
            }
            case 12:
            case 13: {
                int hours = random.nextInt(isLine ? 40 : 4) > 0 ? 1 + random.nextInt(isLine ? 2 : 5) : number(101);
                return same("pass(" + hours + ")", () -> post.pass(hours), () -> reference.pass(hours));
            }
            case 14: {
                int what = number(10);
                return same("count(" + what + ")", () -> post.count(what), () -> reference.count(what));
            }
            case 15: {
                int what = number(2);
                return same("way(" + s + ", " + t + ", " + what + ")",
                    () -> post.way(s, t, what), () -> reference.way(s, t, what));
            }
            case 16:
                return same("fire(" + s + ", " + t + ")", () -> post.fire(s, t), () -> reference.fire(s, t));
            case 17: {
                int hours = random.nextInt(4) > 0 ? number(40) : number(301);
                return same("foresee(" + letter + ", " + hours + ")",
                    () -> post.foresee(letter, hours), () -> reference.foresee(letter, hours));
            }
            case 18:
                return same("arrives(" + letter + ")", () -> post.arrives(letter), () -> reference.arrives(letter));
            case 19: {
                int hours = number(51);
                return same("advise(" + hours + ")", () -> post.advise(hours), () -> reference.advise(hours));
            }
            default:
                return same("mean()", post::mean, reference::mean);
        }
    }

    private boolean same(String call, Check.Call got, Check.Call want) {
        String is = Check.outcome(got);
        String due = Check.outcome(want);
        calls.add(call + " " + is + (is.equals(due) ? "" : ", due is " + due));
        return is.equals(due);
    }
}
