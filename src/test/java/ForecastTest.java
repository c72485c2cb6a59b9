/** Promises 27 to 32: what would be. What the calls refuse stands in RefusalsTest. */
public final class ForecastTest {
    public static void main(String[] args) {
        hoursUntilEachAudit();
        hoursUntilAuditAroundNoon();
        auditBringsWhatItThenDoes();
        auditBringsLeastAndMost();
        auditBringsOnlyTheNext();
        richestBehindTheAudit();
        richestOfSeveral();
        richestOfTheIndebted();
        richestWithoutMembers();
        bestHatByShadow();
        bestHatOfThoseThatCanBeBorrowed();
        bestHatOfSeveral();
        bestHatOfNone();
        longestInOwnHat();
        longestInAtMost23();
        longestInOfSeveral();
        longestInAcrossTheAudit();
        longestInWithALamp();
        meanOfShadows();
        meanIsNotCut();
        meanWithoutMembers();
        nothingIsChanged();
        Due.end();
    }

    private static void hoursUntilEachAudit() {
        Due.sentence("27: Returns behind how many hours there is an audit");
        ShadowSociety s = new ShadowSociety();
        for (int hour = 0; hour < 60; hour++) {
            int due = 1;
            while ((hour + due) % 24 != 12) {
                due++;
            }
            Due.answer("hoursUntilAudit() at " + hour, s.hoursUntilAudit(), due);
            s.pass(1);
        }
    }

    private static void hoursUntilAuditAroundNoon() {
        Due.sentence("27: .. 1 to 24.");
        ShadowSociety s = new ShadowSociety();
        int[] hours = {0, 11, 12, 13, 23, 24, 35, 36, 37};
        int[] due = {12, 1, 24, 23, 13, 12, 1, 24, 23};
        for (int i = 0; i < hours.length; i++) {
            if (i > 0) {
                s.pass(hours[i] - s.hour());
            }
            Due.answer("hoursUntilAudit() at " + hours[i], s.hoursUntilAudit(), due[i]);
        }
    }

    private static void auditBringsWhatItThenDoes() {
        Due.sentence("28: Returns how much greater the purse will be behind the next audit");
        ShadowSociety s = new ShadowSociety();
        for (int i = 0; i < 5; i++) {
            s.join(40, 6);
        }
        s.pass(8);
        s.certify(1);
        s.buyLamp(2, 9);
        s.certify(2);
        s.buyLamp(3, 4);
        s.certify(4);
        s.buyLamp(4, 1);
        int[] due = {0, 3, -28, -8, 1};
        int[] purses = new int[due.length];
        for (int i = 0; i < due.length; i++) {
            Due.answer("auditBrings(" + i + ")", s.auditBrings(i), due[i]);
            purses[i] = s.purseOf(i);
        }
        s.pass(s.hoursUntilAudit());
        for (int i = 0; i < due.length; i++) {
            Due.answer("what the audit brought " + i, s.purseOf(i) - purses[i], due[i]);
        }
    }

    private static void auditBringsLeastAndMost() {
        Due.sentence("28: .. less than 0 if less, if nothing else is done");
        ShadowSociety s = Scenes.four();
        Due.answer("auditBrings(0) without lamp and certificate", s.auditBrings(0), 0);
        for (int brightness = 1; brightness <= 9; brightness++) {
            s.buyLamp(0, brightness);
            Due.answer("auditBrings(0) with a lamp of " + brightness, s.auditBrings(0), -2 * brightness);
            if (brightness < 9) {
                s.dropLamp(0);
            }
        }
        s.certify(0);
        Due.answer("auditBrings(0), the most that it costs", s.auditBrings(0), -28);
        s.dropLamp(0);
        Due.answer("auditBrings(0) with a false certificate", s.auditBrings(0), -10);
        s.certify(0);
        Due.answer("auditBrings(0), the most that it brings", s.auditBrings(0), 3);
        s.pass(8);
        s.borrow(1, 2);
        s.certify(1);
        Due.answer("auditBrings(1), certified with a borrowed hat", s.auditBrings(1), -10);
        Due.answer("auditBrings(2), a lent hat costs nothing", s.auditBrings(2), 0);
        Due.answer("auditBrings(0) of who is expelled", Scenes.expelled().auditBrings(0), 0);
    }

    private static void auditBringsOnlyTheNext() {
        Due.sentence("28: .. behind the next audit");
        ShadowSociety s = Scenes.four();
        s.certify(0);
        s.buyLamp(1, 2);
        Scenes.certifyFalsely(s, 2);
        s.pass(11);
        int[] due = {3, -4, -10, 0};
        for (int m = 0; m < 4; m++) {
            Due.answer("auditBrings(" + m + ") at 11", s.auditBrings(m), due[m]);
        }
        s.pass(1);
        int[] dueThen = {3, 0, 0, 0};
        for (int m = 0; m < 4; m++) {
            Due.answer("auditBrings(" + m + ") at 12, of the one tomorrow", s.auditBrings(m), dueThen[m]);
        }
    }

    private static void richestBehindTheAudit() {
        Due.sentence("29: Returns the member with the greatest purse behind the next audit, if nothing else is done");
        ShadowSociety s = Scenes.four();
        s.certify(3);
        Due.answer("richestThen(), a reward of the last one", s.richestThen(), 3);
        Scenes.spendDownTo(s, 1, 49);
        s.certify(1);
        Due.answer("richestThen(), 53 over 52", s.richestThen(), 3);
        s.buyLamp(3, 1);
        Due.answer("richestThen(), 52 over 50 by the fine", s.richestThen(), 1);
        Scenes.certifyFalsely(s, 1);
        s.dropLamp(3);
        Due.answer("richestThen(), 52 over 50 and 38", s.richestThen(), 3);
        int before = s.richestThen();
        s.pass(s.hoursUntilAudit());
        for (int m = 0; m < 4; m++) {
            Due.answer("purseOf(" + m + ") is the greatest", s.purseOf(m) > s.purseOf(before), false);
        }
    }

    private static void richestOfSeveral() {
        Due.sentence("29: .. of several the smallest number");
        ShadowSociety s = Scenes.four();
        Due.answer("richestThen(), all alike", s.richestThen(), 0);
        s.certify(2);
        s.certify(1);
        Due.answer("richestThen(), 1 and 2 alike", s.richestThen(), 1);
        Scenes.spendDownTo(s, 1, 47);
        s.certify(3);
        Due.answer("richestThen(), 2 and 3 alike", s.richestThen(), 2);
        Scenes.spendDownTo(s, 2, 47);
        Scenes.spendDownTo(s, 3, 47);
        Due.answer("richestThen(), 50 and 47 with a reward of 3", s.richestThen(), 0);
    }

    private static void richestOfTheIndebted() {
        Due.sentence("29: Returns the member with the greatest purse .. which may be less than 0");
        ShadowSociety s = new ShadowSociety();
        s.join(40, 6);
        s.join(40, 6);
        for (int m = 0; m < 2; m++) {
            Scenes.spendDownTo(s, m, 9 - m);
            s.buyLamp(m, 9 - m);
            s.certify(m);
        }
        Due.answer("richestThen(), -26 over -28", s.richestThen(), 1);
        s.pass(12);
        Due.answer("purseOf(0)", s.purseOf(0), -28);
        Due.answer("purseOf(1)", s.purseOf(1), -26);
        Due.answer("richestThen(), of those in debt", s.richestThen(), 1);
    }

    private static void richestWithoutMembers() {
        Due.sentence("29: .. -1 without members");
        ShadowSociety s = new ShadowSociety();
        Due.answer("richestThen()", s.richestThen(), -1);
        s.pass(12);
        Due.answer("richestThen() behind an audit", s.richestThen(), -1);
        s.join(1, 0);
        Due.answer("richestThen() of one", s.richestThen(), 0);
    }

    private static void bestHatByShadow() {
        Due.sentence("30: Returns whose hat this one had best borrow now .. so that the shadow of now is the longest");
        ShadowSociety s = new ShadowSociety();
        s.join(41, 6);
        s.join(60, 0);
        s.join(55, 10);
        s.join(30, 11);
        s.join(20, 13);
        s.pass(8);
        int[] due = {4, 4, 4, 4, 3};
        for (int m = 0; m < due.length; m++) {
            Due.answer("bestHat(" + m + ")", s.bestHat(m), due[m]);
        }
        s.buyLamp(0, 9);
        Due.answer("bestHat(0) with a lamp", s.bestHat(0), 4);
        ShadowSociety high = new ShadowSociety();
        high.join(40, 20);
        high.join(40, 1);
        high.pass(8);
        Due.answer("bestHat(0), though lower than the own one", high.bestHat(0), 1);
    }

    private static void bestHatOfThoseThatCanBeBorrowed() {
        Due.sentence("30: .. of those that can be borrowed");
        ShadowSociety s = new ShadowSociety();
        s.join(40, 6);
        s.join(40, 0);
        s.join(40, 10);
        s.join(40, 14);
        s.join(40, 18);
        s.pass(8);
        Due.answer("bestHat(0)", s.bestHat(0), 4);
        s.borrow(1, 4);
        Due.answer("bestHat(0), that of 4 lent", s.bestHat(0), 3);
        s.borrow(4, 2);
        Due.answer("bestHat(0), that of 2 lent as well", s.bestHat(0), 3);
        s.borrow(3, 0);
        Due.answer("bestHat(2) by who lent the own one, all others lent or at home", s.bestHat(2), -1);
        s.giveBack(3);
        Due.answer("bestHat(2) by who lent the own one", s.bestHat(2), 3);
        s.giveBack(1);
        Due.answer("bestHat(1), that of 4 at home", s.bestHat(1), 3);
        Due.answer("bestHat(4), who wears a borrowed one", s.bestHat(4), -1);
    }

    private static void bestHatOfSeveral() {
        Due.sentence("30: .. of several the smallest number");
        ShadowSociety s = new ShadowSociety();
        s.join(41, 0);
        s.join(60, 2);
        s.join(55, 15);
        s.join(55, 16);
        s.join(55, 16);
        Due.answer("bestHat(0) by night, all alike", s.bestHat(0), 1);
        Due.answer("bestHat(1) by night, not the own one", s.bestHat(1), 2);
        s.pass(8);
        Due.answer("bestHat(0), 3 and 4 alike", s.bestHat(0), 3);
        Due.answer("bestHat(3), not the own one", s.bestHat(3), 4);
        s.pass(3);
        Due.answer("bestHat(0) at 11, 56 / 2 and 57 / 2 alike", s.bestHat(0), 2);
        Due.answer("bestHat(1) at 11, 76 / 2 over 75 / 2", s.bestHat(1), 3);
        s.pass(1);
        Due.answer("bestHat(0) at noon, all alike", s.bestHat(0), 1);
    }

    private static void bestHatOfNone() {
        Due.sentence("30: .. -1 if none can be borrowed");
        ShadowSociety s = new ShadowSociety();
        s.join(41, 5);
        Due.answer("bestHat(0) alone", s.bestHat(0), -1);
        s.join(60, 0);
        Due.answer("bestHat(0) with who has no hat", s.bestHat(0), -1);
        Due.answer("bestHat(1), by night too", s.bestHat(1), 0);
        s.borrow(1, 0);
        Due.answer("bestHat(0), who lent the only one", s.bestHat(0), -1);
        Due.answer("bestHat(1), who wears it", s.bestHat(1), -1);
        s.join(50, 1);
        Due.answer("bestHat(1), who wears a borrowed one", s.bestHat(1), -1);
        Due.answer("bestHat(0), the least one", s.bestHat(0), 2);
    }

    private static void longestInOwnHat() {
        Due.sentence("31: Returns in how many hours .. the shadow is the longest");
        ShadowSociety s = new ShadowSociety();
        s.join(40, 6);
        for (int hour = 0; hour < 48; hour++) {
            int hourOfDay = hour % 24;
            int until7 = (31 - hourOfDay) % 24;
            int until17 = (41 - hourOfDay) % 24;
            Due.answer("longestIn(0) at " + hour, s.longestIn(0), Math.min(until7, until17));
            s.pass(1);
        }
    }

    private static void longestInAtMost23() {
        Due.sentence("31: .. 0 to 23");
        ShadowSociety s = new ShadowSociety();
        s.join(60, 0);
        s.join(20, 20);
        s.pass(7);
        Due.answer("longestIn(0) at 7, now", s.longestIn(0), 0);
        s.pass(10);
        Due.answer("longestIn(0) at 17, now", s.longestIn(0), 0);
        s.borrow(0, 1);
        Due.answer("longestIn(1) at 17, 50 now, 80 in 23 hours", s.longestIn(1), 23);
        s.pass(1);
        Due.answer("longestIn(1) at 18, the own hat in 23 hours", s.longestIn(1), 23);
        ShadowSociety small = new ShadowSociety();
        small.join(60, 2);
        small.join(60, 0);
        small.pass(17);
        small.borrow(1, 0);
        Due.answer("longestIn(0) at 17, 150 now and 24 hours ahead 155", small.longestIn(0), 0);
    }

    private static void longestInOfSeveral() {
        Due.sentence("31: .. of several the soonest");
        ShadowSociety s = new ShadowSociety();
        s.join(40, 6);
        s.join(1, 0);
        s.join(3, 0);
        Due.answer("longestIn(0) at 0, 7 and 17 alike", s.longestIn(0), 7);
        s.pass(7);
        Due.answer("longestIn(0) at 7, now and 17 alike", s.longestIn(0), 0);
        s.pass(1);
        Due.answer("longestIn(1) at 8, now, 16, 17 and 7 alike as / 2 is cut", s.longestIn(1), 0);
        Due.answer("longestIn(2) at 8, 17 and 7 alike", s.longestIn(2), 9);
        s.pass(1);
        Due.answer("longestIn(1) at 9, 16, 17, 7 and 8 alike", s.longestIn(1), 7);
        s.pass(8);
        Due.answer("longestIn(0) at 17, now and 7 alike", s.longestIn(0), 0);
        s.pass(1);
        Due.answer("longestIn(0) at 18, 7 and 17 alike", s.longestIn(0), 13);
    }

    private static void longestInAcrossTheAudit() {
        Due.sentence("31: .. if nothing else is done .. at noon there is an audit");
        ShadowSociety s = new ShadowSociety();
        s.join(60, 0);
        s.join(20, 20);
        s.pass(8);
        s.borrow(0, 1);
        Due.answer("longestIn(0), 160 now, 150 behind the audit", s.longestIn(0), 0);
        Due.answer("longestIn(1), the lent hat is back at 17", s.longestIn(1), 9);
        s.pass(1);
        Due.answer("longestIn(0), 120 now, 150 behind the audit", s.longestIn(0), 8);
        s.pass(9);
        s.borrow(0, 1);
        Due.answer("longestIn(0) at 18, the borrowed hat at 7", s.longestIn(0), 13);
        Due.answer("longestIn(1) at 18, the own one at 17", s.longestIn(1), 23);
    }

    private static void longestInWithALamp() {
        Due.sentence("31: .. if nothing else is done .. a lamp is seized");
        ShadowSociety s = new ShadowSociety();
        s.join(1, 0);
        s.join(60, 0);
        s.buyLamp(0, 9);
        s.buyLamp(1, 9);
        Due.answer("longestIn(0) at 0, lamp and sun at 7", s.longestIn(0), 7);
        s.pass(8);
        Due.answer("longestIn(1) at 8, 147 now, 150 at 17", s.longestIn(1), 9);
        s.pass(3);
        Due.answer("longestIn(0) at 11, the lamp is gone in an hour", s.longestIn(0), 0);
        s.pass(1);
        s.buyLamp(0, 9);
        Due.answer("longestIn(0) at 12, lamp and sun at 16", s.longestIn(0), 4);
        s.pass(6);
        Due.answer("longestIn(0) at 18, lamp and sun at 7", s.longestIn(0), 13);
    }

    private static void meanOfShadows() {
        Due.sentence("32: Returns the mean of all shadows now");
        ShadowSociety s = Scenes.four();
        Due.answer("meanShadow() by night", s.meanShadow(), 0.0);
        s.buyLamp(0, 4);
        Due.answer("meanShadow() by night with a lamp", s.meanShadow(), 3.0);
        s.pass(8);
        Due.answer("meanShadow()", s.meanShadow(), (92 + 12 + 120 + 130 + 66) / 4.0);
        s.borrow(1, 2);
        Due.answer("meanShadow() with a borrowed hat", s.meanShadow(), (92 + 12 + 140 + 110 + 66) / 4.0);
        s.pass(4);
        Due.answer("meanShadow() at noon", s.meanShadow(), 0.0);
        ShadowSociety ten = Scenes.ten();
        ten.pass(8);
        Due.answer("meanShadow() of ten", ten.meanShadow(), 58.0);
    }

    private static void meanIsNotCut() {
        Due.sentence("32: .. the mean ..");
        ShadowSociety s = Scenes.four();
        s.buyLamp(0, 1);
        Due.answer("meanShadow() of four, a sum of 3", s.meanShadow(), 0.75);
        ShadowSociety three = new ShadowSociety();
        three.join(40, 6);
        three.join(60, 0);
        three.join(55, 10);
        three.pass(11);
        Due.answer("meanShadow() of three, a sum of 85", three.meanShadow(), 85 / 3.0);
    }

    private static void meanWithoutMembers() {
        Due.sentence("32: .. 0 without members.");
        ShadowSociety s = new ShadowSociety();
        Due.answer("meanShadow()", s.meanShadow(), 0.0);
        s.pass(8);
        Due.answer("meanShadow() by day", s.meanShadow(), 0.0);
        s.join(40, 6);
        Due.answer("meanShadow() of one", s.meanShadow(), 92.0);
    }

    private static void nothingIsChanged() {
        Due.sentence("(nothing is changed)");
        ShadowSociety asked = Scenes.busy();
        ShadowSociety untouched = Scenes.busy();
        for (int m = 0; m < 4; m++) {
            asked.auditBrings(m);
            asked.bestHat(m);
            asked.longestIn(m);
            asked.honestShadow(m, 17);
        }
        asked.richestThen();
        asked.hoursUntilAudit();
        asked.meanShadow();
        asked.digest();
        Due.answer("what there is behind the questions", Picture.of(asked), Picture.of(untouched));
        asked.pass(24);
        untouched.pass(24);
        Due.answer("what there is a day later", Picture.of(asked), Picture.of(untouched));
    }
}
