/** Promises 22 to 26: shadows, certificates, and the longest shadow. What the calls refuse stands in RefusalsTest. */
public final class ShadowsTest {
    public static void main(String[] args) {
        shadowAtEachHour();
        shadowWithLampAndHats();
        shadowOfTheLeastAndTheMost();
        honestShadowAtEachHour();
        honestShadowFirstAndLastHour();
        certifiedOrNone();
        certifiedLengthOfZero();
        honestOrNot();
        longestOfAll();
        longestOfSeveral();
        longestWithoutMembers();
        Due.end();
    }

    private static void shadowAtEachHour() {
        Due.sentence("22: Returns the shadow now.");
        ShadowSociety s = new ShadowSociety();
        s.join(40, 7);
        s.join(60, 0);
        for (int hour = 0; hour < 48; hour++) {
            int steps = Scenes.STEPS[hour % 24];
            Due.answer("shadowOf(0) at " + hour, s.shadowOf(0), 47 * steps / 2);
            Due.answer("shadowOf(1) at " + hour, s.shadowOf(1), 60 * steps / 2);
            s.pass(1);
        }
    }

    private static void shadowWithLampAndHats() {
        Due.sentence("Shadow: the natural one, and 3 times the brightness of the lamp, added");
        ShadowSociety s = new ShadowSociety();
        s.join(40, 7);
        s.join(60, 10);
        s.buyLamp(0, 5);
        Due.answer("shadowOf(0) by night", s.shadowOf(0), 15);
        Due.answer("shadowOf(1) by night", s.shadowOf(1), 0);
        s.pass(9);
        s.borrow(0, 1);
        Due.answer("shadowOf(0) with lamp and borrowed hat", s.shadowOf(0), 50 * 3 / 2 + 15);
        Due.answer("shadowOf(1) without hat", s.shadowOf(1), 60 * 3 / 2);
        s.pass(3);
        Due.answer("shadowOf(0) behind the audit", s.shadowOf(0), 0);
        s.buyLamp(0, 1);
        Due.answer("shadowOf(0) at noon", s.shadowOf(0), 3);
    }

    private static void shadowOfTheLeastAndTheMost() {
        Due.sentence("the height and that of the hat that is worn, added, times the steps, / 2");
        ShadowSociety s = new ShadowSociety();
        s.join(1, 0);
        s.join(99, 20);
        s.join(99, 0);
        s.buyLamp(1, 9);
        s.pass(7);
        Due.answer("shadowOf(0), the least", s.shadowOf(0), 2);
        Due.answer("shadowOf(1), the most", s.shadowOf(1), 119 * 5 / 2 + 27);
        s.borrow(2, 1);
        Due.answer("shadowOf(2)", s.shadowOf(2), 119 * 5 / 2);
        Due.answer("shadowOf(1)", s.shadowOf(1), 99 * 5 / 2 + 27);
        s.giveBack(2);
        s.borrow(0, 1);
        Due.answer("shadowOf(0)", s.shadowOf(0), 21 * 5 / 2);
    }

    private static void honestShadowAtEachHour() {
        Due.sentence("23: Returns the honest shadow at this hour.");
        ShadowSociety s = new ShadowSociety();
        s.join(40, 7);
        s.join(60, 0);
        s.join(55, 20);
        s.buyLamp(0, 9);
        s.buyLamp(2, 9);
        s.borrow(0, 2);
        s.pass(10);
        for (int hour = 0; hour < 24; hour++) {
            Due.answer("honestShadow(0, " + hour + ")", s.honestShadow(0, hour), 47 * Scenes.STEPS[hour] / 2);
            Due.answer("honestShadow(1, " + hour + ")", s.honestShadow(1, hour), 60 * Scenes.STEPS[hour] / 2);
            Due.answer("honestShadow(2, " + hour + ")", s.honestShadow(2, hour), 75 * Scenes.STEPS[hour] / 2);
        }
        Due.answer("hour(), nothing is changed", s.hour(), 10);
    }

    private static void honestShadowFirstAndLastHour() {
        Due.sentence("23: if .. hour is not 0 to 23");
        ShadowSociety s = Scenes.four();
        s.pass(8);
        int[] hours = {0, 6, 7, 11, 12, 13, 17, 18, 23};
        int[] shadows = {0, 0, 115, 23, 0, 23, 115, 0, 0};
        for (int i = 0; i < hours.length; i++) {
            Due.answer("honestShadow(0, " + hours[i] + ")", s.honestShadow(0, hours[i]), shadows[i]);
        }
    }

    private static void certifiedOrNone() {
        Due.sentence("24: Returns the length that is certified; -1 without a certificate.");
        ShadowSociety s = Scenes.four();
        Due.answer("certified(1), never", s.certified(1), -1);
        s.pass(7);
        s.certify(1);
        Scenes.certifyFalsely(s, 2);
        Due.answer("certified(1)", s.certified(1), 150);
        Due.answer("certified(2), not honest", s.certified(2), 165);
        Due.answer("certified(0), not that of another one", s.certified(0), -1);
        s.pass(5);
        Due.answer("certified(1) behind the audit", s.certified(1), 150);
        Due.answer("certified(2), revoked", s.certified(2), -1);
        Due.answer("certified(0) of who is expelled", Scenes.expelled().certified(0), -1);
    }

    private static void certifiedLengthOfZero() {
        Due.sentence("24: .. -1 without a certificate.");
        ShadowSociety s = Scenes.four();
        s.certify(0);
        Due.answer("certified(0) by night", s.certified(0), 0);
        Due.answer("certificates()", s.certificates(), 1);
        s.pass(72);
        Due.answer("certified(0) days later", s.certified(0), 0);
        Due.answer("purseOf(0) by three rewards", s.purseOf(0), 59);
    }

    private static void honestOrNot() {
        Due.sentence("25: Returns whether the certificate is honest.");
        ShadowSociety s = Scenes.busy();
        Due.answer("isHonest(1), a borrowed hat", s.isHonest(1), false);
        Due.answer("isHonest(2), the own one lent", s.isHonest(2), false);
        Due.answer("isHonest(3)", s.isHonest(3), true);
        s.certify(0);
        Due.answer("isHonest(0), a lamp", s.isHonest(0), false);
        s.giveBack(1);
        s.dropLamp(0);
        Due.answer("isHonest(0), the lamp thrown away later", s.isHonest(0), false);
        Due.answer("isHonest(1), the hat given back later", s.isHonest(1), false);
        Due.answer("isHonest(2), the hat given back later", s.isHonest(2), false);
        s.buyLamp(3, 9);
        s.borrow(3, 2);
        Due.answer("isHonest(3), lamp and hat got later", s.isHonest(3), true);
        s.pass(4);
        Due.answer("isHonest(3) behind the audit", s.isHonest(3), true);
    }

    private static void longestOfAll() {
        Due.sentence("26: Returns the member with the longest shadow now");
        ShadowSociety s = Scenes.ten();
        s.pass(8);
        Due.answer("longest(), the last one", s.longest(), 9);
        s.buyLamp(5, 6);
        Due.answer("longest(), a lamp", s.longest(), 5);
        s.borrow(8, 9);
        s.dropLamp(5);
        Due.answer("longest(), a borrowed hat", s.longest(), 8);
        s.buyLamp(0, 9);
        Due.answer("longest(), 74 over 67", s.longest(), 8);
        s.pass(1);
        Due.answer("longest() an hour later, 57 over 55", s.longest(), 0);
    }

    private static void longestOfSeveral() {
        Due.sentence("26: .. of several the smallest number");
        ShadowSociety s = new ShadowSociety();
        s.join(40, 6);
        s.join(46, 0);
        s.join(55, 10);
        s.join(65, 0);
        s.join(64, 0);
        Due.answer("longest() by night", s.longest(), 0);
        s.buyLamp(3, 1);
        s.buyLamp(1, 1);
        Due.answer("longest() by night, two lamps", s.longest(), 1);
        s.dropLamp(1);
        s.dropLamp(3);
        s.pass(8);
        Due.answer("longest(), 2 and 3 alike", s.longest(), 2);
        s.borrow(0, 2);
        Due.answer("longest() without the lent hat", s.longest(), 3);
        s.pass(3);
        Due.answer("longest() at 11, 3 and 4 alike as / 2 is cut", s.longest(), 3);
        s.pass(1);
        Due.answer("longest() at noon", s.longest(), 0);
    }

    private static void longestWithoutMembers() {
        Due.sentence("26: .. -1 without members.");
        ShadowSociety s = new ShadowSociety();
        Due.answer("longest()", s.longest(), -1);
        s.pass(7);
        Due.answer("longest() by day", s.longest(), -1);
        s.join(1, 0);
        Due.answer("longest() of one", s.longest(), 0);
        s.pass(12);
        Due.answer("longest() of one by night", s.longest(), 0);
    }
}
