/** Promises 22 to 26: shadows, certificates, and the longest shadow. */
public final class ShadowsTest {
    public static void main(String[] args) {
        shadowAtEachHour();
        shadowWithLampAndBorrowedHat();
        honestShadowAtEachHour();
        certifiedLengths();
        honestCertificates();
        longestOfAll();
        refusals();
        Due.end();
    }

    /** The steps of the sun at each hour of the day; without sun as well as at 12 there is no natural shadow. */
    private static final int[] STEPS = {0, 0, 0, 0, 0, 0, 0, 5, 4, 3, 2, 1, 0, 1, 2, 3, 4, 5, 0, 0, 0, 0, 0, 0};

    private static void shadowAtEachHour() {
        ShadowSociety s = new ShadowSociety();
        s.join(40, 7);
        s.join(60, 0);
        for (int hour = 0; hour < 48; hour++) {
            int steps = STEPS[hour % 24];
            Due.answer("22: shadowOf(0) at " + hour, s.shadowOf(0), 47 * steps / 2);
            Due.answer("22: shadowOf(1) at " + hour, s.shadowOf(1), 60 * steps / 2);
            s.pass(1);
        }
    }

    private static void shadowWithLampAndBorrowedHat() {
        ShadowSociety s = new ShadowSociety();
        s.join(40, 7);
        s.join(60, 10);
        s.buyLamp(0, 5);
        Due.answer("22: shadowOf(0) by night", s.shadowOf(0), 15);
        Due.answer("22: shadowOf(1) by night", s.shadowOf(1), 0);
        s.pass(9);
        s.borrow(0, 1);
        Due.answer("22: shadowOf(0) with lamp and borrowed hat", s.shadowOf(0), 50 * 3 / 2 + 15);
        Due.answer("22: shadowOf(1) without hat", s.shadowOf(1), 60 * 3 / 2);
        s.pass(3);
        s.buyLamp(0, 1);
        Due.answer("22: shadowOf(0) at noon", s.shadowOf(0), 3);
    }

    private static void honestShadowAtEachHour() {
        ShadowSociety s = new ShadowSociety();
        s.join(40, 7);
        s.join(60, 0);
        s.join(55, 20);
        s.buyLamp(0, 9);
        s.buyLamp(2, 9);
        s.borrow(0, 2);
        s.pass(10);
        for (int hour = 0; hour < 24; hour++) {
            Due.answer("23: honestShadow(0, " + hour + ")", s.honestShadow(0, hour), 47 * STEPS[hour] / 2);
            Due.answer("23: honestShadow(1, " + hour + ")", s.honestShadow(1, hour), 60 * STEPS[hour] / 2);
            Due.answer("23: honestShadow(2, " + hour + ")", s.honestShadow(2, hour), 75 * STEPS[hour] / 2);
        }
    }

    private static void certifiedLengths() {
        ShadowSociety s = new ShadowSociety();
        s.join(40, 7);
        s.join(60, 0);
        Due.answer("24: certified(0) without one", s.certified(0), -1);
        s.certify(0);
        Due.answer("24: certified(0) by night", s.certified(0), 0);
        Due.answer("24: certified(1) without one", s.certified(1), -1);
        s.pass(7);
        s.certify(1);
        Due.answer("24: certified(1)", s.certified(1), 150);
        s.pass(5);
        Due.answer("24: certified(1) behind the audit", s.certified(1), 150);
    }

    private static void honestCertificates() {
        ShadowSociety s = new ShadowSociety();
        s.join(40, 7);
        s.join(60, 4);
        s.join(55, 7);
        s.join(30, 6);
        s.join(20, 1);
        s.pass(11);
        s.certify(0);
        Due.answer("25: isHonest(0)", s.isHonest(0), true);
        s.borrow(0, 2);
        s.certify(0);
        Due.answer("25: isHonest(0) with as high a hat of another", s.isHonest(0), true);
        s.certify(2);
        Due.answer("25: isHonest(2) without the lent hat", s.isHonest(2), false);
        s.giveBack(0);
        Due.answer("25: isHonest(2) with the hat again", s.isHonest(2), false);
        s.borrow(0, 3);
        s.certify(0);
        Due.answer("25: isHonest(0), 46 / 2 for 47 / 2", s.isHonest(0), true);
        s.giveBack(0);
        s.borrow(0, 4);
        s.buyLamp(0, 1);
        s.certify(0);
        Due.answer("25: isHonest(0), a lamp in place of a hat", s.isHonest(0), true);
        Due.answer("25: certified(0)", s.certified(0), 23);
        s.dropLamp(0);
        s.certify(0);
        Due.answer("25: isHonest(0), too short", s.isHonest(0), false);
        s.buyLamp(1, 1);
        s.certify(1);
        Due.answer("25: isHonest(1), too long", s.isHonest(1), false);
    }

    private static void longestOfAll() {
        ShadowSociety s = new ShadowSociety();
        Due.answer("26: longest() without members", s.longest(), -1);
        s.join(40, 6);
        s.join(46, 0);
        s.join(55, 10);
        s.join(65, 0);
        Due.answer("26: longest() by night", s.longest(), 0);
        s.buyLamp(1, 1);
        Due.answer("26: longest() by night with a lamp", s.longest(), 1);
        s.pass(8);
        Due.answer("26: longest(), of two the smallest", s.longest(), 2);
        s.borrow(0, 2);
        Due.answer("26: longest() without the lent hat", s.longest(), 3);
        s.pass(4);
        Due.answer("26: longest() at noon", s.longest(), 0);
    }

    private static void refusals() {
        ShadowSociety s = new ShadowSociety();
        s.join(40, 6);
        s.join(60, 0);
        s.certify(1);
        for (int bad : new int[] {-1, 2, 10, Integer.MIN_VALUE, Integer.MAX_VALUE}) {
            Due.refusal(s, "22: shadowOf(" + bad + ")", Due.OUT_OF_BOUNDS, () -> s.shadowOf(bad));
            Due.refusal(s, "23: honestShadow(" + bad + ", 8)", Due.OUT_OF_BOUNDS, () -> s.honestShadow(bad, 8));
            Due.refusal(s, "24: certified(" + bad + ")", Due.OUT_OF_BOUNDS, () -> s.certified(bad));
            Due.refusal(s, "25: isHonest(" + bad + ")", Due.OUT_OF_BOUNDS, () -> s.isHonest(bad));
        }
        for (int bad : new int[] {-1, 24, Integer.MIN_VALUE, Integer.MAX_VALUE}) {
            Due.refusal(s, "23: honestShadow(0, " + bad + ")", Due.OUT_OF_BOUNDS, () -> s.honestShadow(0, bad));
        }
        Due.refusal(s, "25: isHonest(0) without certificate", Due.ILLEGAL_STATE, () -> s.isHonest(0));
    }
}
