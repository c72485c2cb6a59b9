/** Promises 27 to 33: what would be, and the digest. */
public final class ForecastTest {
    public static void main(String[] args) {
        hoursUntilEachAudit();
        auditBringsFinesAndRewards();
        richestBehindTheAudit();
        bestHatByShadow();
        bestHatWhenAllAreAlike();
        bestHatOfNone();
        longestInOwnHat();
        longestInAcrossTheAudit();
        meanOfShadows();
        digestIsTheFormula();
        refusals();
        nothingIsChanged();
        Due.end();
    }

    private static void hoursUntilEachAudit() {
        ShadowSociety s = new ShadowSociety();
        for (int hour = 0; hour < 60; hour++) {
            int due = 1;
            while ((hour + due) % 24 != 12) {
                due++;
            }
            Due.answer("27: hoursUntilAudit() at " + hour, s.hoursUntilAudit(), due);
            s.pass(1);
        }
    }

    private static void auditBringsFinesAndRewards() {
        ShadowSociety s = new ShadowSociety();
        for (int i = 0; i < 5; i++) {
            s.join(40, 6);
        }
        s.pass(8);
        s.certify(1);
        s.buyLamp(2, 9);
        s.certify(2);
        s.buyLamp(3, 4);
        s.certify(4);
        s.buyLamp(4, 1);
        int[] due = {0, 3, -28, -8, 1};
        for (int i = 0; i < due.length; i++) {
            Due.answer("28: auditBrings(" + i + ")", s.auditBrings(i), due[i]);
        }
        int[] purses = new int[due.length];
        for (int i = 0; i < due.length; i++) {
            purses[i] = s.purseOf(i);
        }
        s.pass(s.hoursUntilAudit());
        for (int i = 0; i < due.length; i++) {
            Due.answer("28: what the audit brought " + i, s.purseOf(i) - purses[i], due[i]);
        }
        Due.answer("28: auditBrings(1) of the next audit", s.auditBrings(1), 3);
        Due.answer("28: auditBrings(2) of the next audit", s.auditBrings(2), 0);
    }

    private static void richestBehindTheAudit() {
        ShadowSociety s = new ShadowSociety();
        Due.answer("29: richestThen() without members", s.richestThen(), -1);
        s.join(40, 6);
        s.join(60, 0);
        s.join(55, 10);
        Due.answer("29: richestThen(), of several the smallest", s.richestThen(), 0);
        s.certify(1);
        Due.answer("29: richestThen() by a reward", s.richestThen(), 1);
        s.certify(2);
        Due.answer("29: richestThen(), of two the smallest", s.richestThen(), 1);
        s.buyLamp(1, 1);
        Due.answer("29: richestThen() by a fine", s.richestThen(), 2);
        ShadowSociety poor = new ShadowSociety();
        poor.join(40, 6);
        for (int i = 0; i < 5; i++) {
            poor.buyLamp(0, 9);
            poor.dropLamp(0);
        }
        poor.buyLamp(0, 5);
        poor.certify(0);
        Due.answer("29: auditBrings(0)", poor.auditBrings(0), -20);
        Due.answer("29: richestThen() with a purse less than 0", poor.richestThen(), 0);
        poor.pass(12);
        Due.answer("29: purseOf(0)", poor.purseOf(0), -20);
    }

    private static void bestHatByShadow() {
        ShadowSociety s = new ShadowSociety();
        s.join(41, 6);
        s.join(60, 0);
        s.join(55, 10);
        s.join(30, 11);
        s.join(20, 11);
        s.pass(7);
        Due.answer("30: bestHat(0) at 7, the first of the highest", s.bestHat(0), 3);
        Due.answer("30: bestHat(3) at 7, not the own one", s.bestHat(3), 4);
        s.pass(4);
        Due.answer("30: bestHat(0) at 11, 52 / 2 over 51 / 2", s.bestHat(0), 3);
        Due.answer("30: bestHat(1) at 11, 70 / 2 and 71 / 2 alike", s.bestHat(1), 2);
        s.borrow(1, 3);
        Due.answer("30: bestHat(0) with 3 lent", s.bestHat(0), 4);
        Due.answer("30: bestHat(1) with a borrowed hat on", s.bestHat(1), -1);
        Due.answer("30: bestHat(3) by who lent the own hat, 40 / 2 and 41 / 2 alike", s.bestHat(3), 2);
        s.borrow(4, 2);
        Due.answer("30: bestHat(0) with all others lent or at home", s.bestHat(0), -1);
        Due.answer("30: bestHat(2), lower than the own one", s.bestHat(2), 0);
    }

    private static void bestHatWhenAllAreAlike() {
        ShadowSociety s = new ShadowSociety();
        s.join(41, 0);
        s.join(60, 2);
        s.join(55, 20);
        Due.answer("30: bestHat(0) by night", s.bestHat(0), 1);
        Due.answer("30: bestHat(1) by night", s.bestHat(1), 2);
        s.pass(12);
        Due.answer("30: bestHat(0) at noon", s.bestHat(0), 1);
        s.pass(1);
        Due.answer("30: bestHat(0) at 13", s.bestHat(0), 2);
    }

    private static void bestHatOfNone() {
        ShadowSociety s = new ShadowSociety();
        s.join(41, 5);
        Due.answer("30: bestHat(0) alone", s.bestHat(0), -1);
        s.join(60, 0);
        Due.answer("30: bestHat(0) with who has no hat", s.bestHat(0), -1);
        Due.answer("30: bestHat(1)", s.bestHat(1), 0);
    }

    private static void longestInOwnHat() {
        ShadowSociety s = new ShadowSociety();
        s.join(40, 6);
        for (int hour = 0; hour < 48; hour++) {
            int hourOfDay = hour % 24;
            int until7 = (31 - hourOfDay) % 24;
            int until17 = (41 - hourOfDay) % 24;
            Due.answer("31: longestIn(0) at " + hour, s.longestIn(0), Math.min(until7, until17));
            s.pass(1);
        }
    }

    private static void longestInAcrossTheAudit() {
        ShadowSociety s = new ShadowSociety();
        s.join(60, 0);
        s.join(20, 20);
        s.join(1, 0);
        s.pass(8);
        s.borrow(0, 1);
        Due.answer("31: longestIn(0), 160 now, 150 behind the audit", s.longestIn(0), 0);
        Due.answer("31: longestIn(1), the lent hat is back at 17", s.longestIn(1), 9);
        s.pass(1);
        Due.answer("31: longestIn(0), 120 now, 150 behind the audit", s.longestIn(0), 8);
        s.pass(2);
        s.buyLamp(2, 9);
        Due.answer("31: longestIn(2), the lamp is gone in an hour", s.longestIn(2), 0);
        s.pass(1);
        s.buyLamp(2, 9);
        Due.answer("31: longestIn(2) at 12, the lamp stays 24 hours, 1 * 4 / 2 and 1 * 5 / 2 alike", s.longestIn(2), 4);
        s.pass(5);
        s.borrow(0, 1);
        Due.answer("31: longestIn(1) at 17, 23 hours ahead", s.longestIn(1), 23);
        s.giveBack(0);
        ShadowSociety late = new ShadowSociety();
        late.join(60, 2);
        late.join(60, 0);
        late.pass(17);
        late.borrow(1, 0);
        Due.answer("31: longestIn(0) at 17, 24 hours ahead is too far", late.longestIn(0), 0);
        s.pass(1);
        Due.answer("31: longestIn(2) at 18, lamp and sun at 7", s.longestIn(2), 13);
        s.dropLamp(2);
        s.borrow(0, 1);
        Due.answer("31: longestIn(0) at 18, the borrowed hat at 7", s.longestIn(0), 13);
        Due.answer("31: longestIn(1) at 18, the own one at 17", s.longestIn(1), 23);
    }

    private static void meanOfShadows() {
        ShadowSociety s = new ShadowSociety();
        Due.answer("32: meanShadow() without members", s.meanShadow(), 0.0);
        s.join(40, 6);
        s.join(60, 0);
        s.join(55, 10);
        Due.answer("32: meanShadow() by night", s.meanShadow(), 0.0);
        s.buyLamp(0, 1);
        Due.answer("32: meanShadow() with a lamp", s.meanShadow(), 1.0);
        s.pass(8);
        Due.answer("32: meanShadow()", s.meanShadow(), (92 + 3 + 120 + 130) / 3.0);
        s.join(1, 0);
        Due.answer("32: meanShadow() of four", s.meanShadow(), 347 / 4.0);
    }

    private static void digestIsTheFormula() {
        ShadowSociety s = new ShadowSociety();
        Due.answer("33: digest() of a new object", s.digest(), digestByTheFace(s));
        s.join(40, 6);
        s.join(60, 0);
        s.join(55, 10);
        s.buyLamp(0, 9);
        s.certify(0);
        s.certify(1);
        s.borrow(1, 2);
        Due.answer("33: digest() at 0", s.digest(), digestByTheFace(s));
        s.pass(8);
        Due.answer("33: digest() at 8", s.digest(), digestByTheFace(s));
        s.giveBack(1);
        for (int i = 0; i < 3; i++) {
            s.borrow(0, 2);
            s.certify(2);
            s.pass(24);
        }
        Due.answer("33: isExpelled(2)", s.isExpelled(2), true);
        Due.answer("33: digest() with an expelled one", s.digest(), digestByTheFace(s));
    }

    static long digestByTheFace(ShadowSociety s) {
        long d = 1049;
        long[] ofAll = {s.members(), s.hour(), s.seized(), s.revoked(), s.certificates(), s.honestOnes(), s.longest(),
            s.richestThen()};
        for (long x : ofAll) {
            d = d * 31 + x;
        }
        for (int m = 0; m < s.members(); m++) {
            long[] ofMember = {s.lampOf(m), s.purseOf(m), s.wears(m), s.hatOn(m), s.hasLent(m) ? 1 : 0,
                s.isExpelled(m) ? 1 : 0, s.shadowOf(m), s.certified(m), s.auditBrings(m), s.bestHat(m), s.longestIn(m)};
            for (long x : ofMember) {
                d = d * 31 + x;
            }
        }
        return d;
    }

    private static void refusals() {
        ShadowSociety s = new ShadowSociety();
        s.join(40, 6);
        s.join(60, 0);
        for (int bad : new int[] {-1, 2, 10, Integer.MIN_VALUE, Integer.MAX_VALUE}) {
            Due.refusal(s, "28: auditBrings(" + bad + ")", Due.OUT_OF_BOUNDS, () -> s.auditBrings(bad));
            Due.refusal(s, "30: bestHat(" + bad + ")", Due.OUT_OF_BOUNDS, () -> s.bestHat(bad));
            Due.refusal(s, "31: longestIn(" + bad + ")", Due.OUT_OF_BOUNDS, () -> s.longestIn(bad));
        }
    }

    private static void nothingIsChanged() {
        ShadowSociety s = new ShadowSociety();
        s.join(40, 6);
        s.join(60, 9);
        s.buyLamp(0, 3);
        s.certify(0);
        s.borrow(0, 1);
        s.pass(10);
        long before = s.digest();
        s.hoursUntilAudit();
        s.auditBrings(0);
        s.richestThen();
        s.bestHat(1);
        s.longestIn(0);
        s.meanShadow();
        Due.answer("28 to 33: digest() behind the questions", s.digest(), before);
        Due.answer("28 to 33: hour()", s.hour(), 10);
    }
}
