/** Societies to begin with, that several tests set up, and the sun above them. */
final class Scenes {
    /** The steps of the sun at each hour of the day; none without sun, and none at 12. */
    static final int[] STEPS = {0, 0, 0, 0, 0, 0, 0, 5, 4, 3, 2, 1, 0, 1, 2, 3, 4, 5, 0, 0, 0, 0, 0, 0};

    private Scenes() {
    }

    static ShadowSociety empty() {
        return new ShadowSociety();
    }

    /** Members 0: 40 with a hat of 6, 1: 60 without, 2: 55 with a hat of 10, 3: 30 with a hat of 3; at 0 o'clock. */
    static ShadowSociety four() {
        ShadowSociety s = new ShadowSociety();
        s.join(40, 6);
        s.join(60, 0);
        s.join(55, 10);
        s.join(30, 3);
        return s;
    }

    /** Four at 8 o'clock: 0 has a lamp of 5, 1 wears the hat of 2, and 1, 2 (false) and 3 (honest) are certified. */
    static ShadowSociety busy() {
        ShadowSociety s = four();
        s.buyLamp(0, 5);
        s.pass(8);
        s.borrow(1, 2);
        s.certify(1);
        s.certify(2);
        s.certify(3);
        return s;
    }

    /** As many as there can be, 20 to 29 high, with hats of 0 to 9. */
    static ShadowSociety ten() {
        ShadowSociety s = new ShadowSociety();
        for (int i = 0; i < 10; i++) {
            s.join(20 + i, i);
        }
        return s;
    }

    /** Four behind three days, at 0 o'clock: 0 is expelled, and has 17 in the purse. */
    static ShadowSociety expelled() {
        ShadowSociety s = four();
        for (int day = 0; day < 3; day++) {
            certifyFalsely(s, 0);
            s.pass(24);
        }
        return s;
    }

    /** A lamp of 1 makes the certificate false; it is thrown away again, and so costs 1. */
    static void certifyFalsely(ShadowSociety s, int member) {
        s.buyLamp(member, 1);
        s.certify(member);
        s.dropLamp(member);
    }

    /** The member's purse goes down from 50 to what is left, by lamps that are thrown away. */
    static void spendDownTo(ShadowSociety s, int member, int left) {
        while (s.purseOf(member) > left) {
            s.buyLamp(member, Math.min(9, s.purseOf(member) - left));
            s.dropLamp(member);
        }
    }
}
