/** Lands with which tests begin. */
final class Posts {
    private Posts() {
    }

    static MountainPost heights(int... heights) {
        MountainPost p = new MountainPost();
        for (int height : heights) {
            p.addStation(height);
        }
        return p;
    }

    /** Stations of the same height, without roads. */
    static MountainPost level(int stations) {
        MountainPost p = new MountainPost();
        for (int i = 0; i < stations; i++) {
            p.addStation(100);
        }
        return p;
    }

    /** Two level stations, and a road from 0 to 1 without a mule. */
    static MountainPost road(int length) {
        MountainPost p = level(2);
        p.build(0, 1, length);
        return p;
    }

    /** Level stations in a line, two hours between each, with a mule of load 6 at the near end of each road. */
    static MountainPost line(int stations) {
        MountainPost p = level(stations);
        for (int i = 0; i + 1 < stations; i++) {
            p.build(i, i + 1, 2);
            p.addMule(i, 6, false);
        }
        return p;
    }

    /** Each station sees the one behind it. */
    static void chainOfSight(MountainPost p, int stations) {
        for (int i = 0; i + 1 < stations; i++) {
            p.setSight(i, i + 1, true);
        }
    }

    static void post(MountainPost p, int times, int from, int to) {
        for (int i = 0; i < times; i++) {
            p.post(from, to, 0);
        }
    }

    /** As much of everything as there can be: 10 stations, 15 roads, 12 mules, 60 letters. */
    static MountainPost full() {
        return busy(12);
    }

    /** A ring of ten roads, with five across; the mules are on the ring; half of the letters are answers to others. */
    static MountainPost busy(int mules) {
        MountainPost p = new MountainPost();
        for (int s = 0; s < 10; s++) {
            p.addStation(s * 7 % 10 * 150);
        }
        for (int r = 0; r < 15; r++) {
            p.build(r % 10, (r < 10 ? r + 1 : r + 5) % 10, r < 10 ? 1 + r % 4 : 9);
        }
        for (int m = 0; m < mules; m++) {
            p.addMule(m % 10, 1 + m % 6, m >= 10);
        }
        for (int s = 0; s < 10; s++) {
            p.setSight(s, (s + 3) % 10, true);
        }
        for (int l = 0; l < 60; l++) {
            int one = l % 10;
            int other = (l + 1 + l % 30 / 10 * 2) % 10;
            p.post(l < 30 ? one : other, l < 30 ? other : one, l * 7 % 10);
        }
        return p;
    }

    /** The same behind nine hours: letters wait, are with mules, have come, are back, are recalled and have turned. */
    static MountainPost inTheMidst(int mules) {
        MountainPost p = busy(mules);
        p.setFog(2, true);
        for (int hour = 0; hour < 9; hour++) {
            for (int l = hour; l < 60; l += 17) {
                if (p.letter(l, 3) < 2 && p.letter(l, 6) == 0) {
                    p.recall(l);
                }
            }
            p.pass(1);
        }
        return p;
    }
}
