/** The sentences of "Terms" that name an edge: hours, sun, hats, shadows, certificates and the audit. */
public final class TermsTest {
    public static void main(String[] args) {
        cutTowardsZero();
        hourOfDayStartsAnew();
        sunFrom7To17();
        stepsAwayFrom12();
        purseLessThanZero();
        hatAtFirst();
        hatAtHome();
        oneHatAtATime();
        lenderWearsNone();
        noShadowWithoutSun();
        lampAtEachHour();
        honestShadowWithTheOwnHat();
        certificateAsItWas();
        certificateOfTheHourOfTheDay();
        honestIfJustAsLong();
        honestByChance();
        auditAt12Alone();
        lampCostsAtTheAudit();
        hatsGoBackAtTheAudit();
        certificatesAtTheAudit();
        honestStays();
        expelledBehindThree();
        expelledByTheOwnOnesAlone();
        noOtherCertificate();
        Due.end();
    }

    private static ShadowSociety at(int hours, ShadowSociety s) {
        s.pass(hours);
        return s;
    }

    private static void cutTowardsZero() {
        Due.sentence("All numbers are whole, and / is cut towards 0.");
        ShadowSociety s = new ShadowSociety();
        s.join(1, 0);
        s.join(40, 7);
        s.pass(7);
        Due.answer("shadowOf(0), 5 / 2", s.shadowOf(0), 2);
        Due.answer("shadowOf(1), 235 / 2", s.shadowOf(1), 117);
        Due.answer("honestShadow(0, 11), 1 / 2", s.honestShadow(0, 11), 0);
        Due.answer("honestShadow(0, 13), 1 / 2", s.honestShadow(0, 13), 0);
        Due.answer("honestShadow(0, 15), 3 / 2", s.honestShadow(0, 15), 1);
        Due.answer("honestShadow(1, 9), 141 / 2", s.honestShadow(1, 9), 70);
        s.buyLamp(0, 1);
        Due.answer("shadowOf(0), 5 / 2 and 3", s.shadowOf(0), 5);
    }

    private static void hourOfDayStartsAnew() {
        Due.sentence("Time is told in hours, from 0; the hour of the day is what is left of the hour divided by 24.");
        ShadowSociety s = new ShadowSociety();
        Due.answer("hour() of a new one", s.hour(), 0);
        Due.answer("hourOfDay() of a new one", s.hourOfDay(), 0);
        int[] hours = {23, 24, 25, 47, 48, 71, 72, 73};
        int[] hoursOfDay = {23, 0, 1, 23, 0, 23, 0, 1};
        for (int i = 0; i < hours.length; i++) {
            s.pass(hours[i] - s.hour());
            Due.answer("hour()", s.hour(), hours[i]);
            Due.answer("hourOfDay() at " + hours[i], s.hourOfDay(), hoursOfDay[i]);
        }
        for (int i = 0; i < 450; i++) {
            s.pass(72);
        }
        Due.answer("hour() behind many days", s.hour(), 73 + 450 * 72);
        Due.answer("hourOfDay() behind many days", s.hourOfDay(), 1);
    }

    private static void sunFrom7To17() {
        Due.sentence("The sun shines at the hours 7 to 17 of the day.");
        ShadowSociety s = new ShadowSociety();
        s.join(99, 20);
        int[] hours = {0, 6, 7, 17, 18, 23, 24, 30, 31, 41, 42};
        int[] shadows = {0, 0, 297, 297, 0, 0, 0, 0, 297, 297, 0};
        for (int i = 0; i < hours.length; i++) {
            if (hours[i] > s.hour()) {
                s.pass(hours[i] - s.hour());
            }
            Due.answer("shadowOf(0) at " + hours[i], s.shadowOf(0), shadows[i]);
            Due.answer("honestShadow(0, ..) at " + hours[i], s.honestShadow(0, hours[i] % 24), shadows[i]);
        }
    }

    private static void stepsAwayFrom12() {
        Due.sentence("It stands as many steps low as the hour of the day is away from 12.");
        ShadowSociety s = new ShadowSociety();
        s.join(20, 0);
        for (int hour = 7; hour <= 17; hour++) {
            s.pass(hour - s.hour());
            int steps = hour > 12 ? hour - 12 : 12 - hour;
            Due.answer("shadowOf(0) at " + hour, s.shadowOf(0), 10 * steps);
            Due.answer("honestShadow(0, " + hour + ")", s.honestShadow(0, hour), 10 * steps);
        }
    }

    private static void purseLessThanZero() {
        Due.sentence("a purse, which may be less than 0 (50, at first)");
        ShadowSociety s = Scenes.four();
        Due.answer("purseOf(0) at first", s.purseOf(0), 50);
        Scenes.spendDownTo(s, 0, 9);
        s.buyLamp(0, 9);
        Due.answer("purseOf(0) at 0", s.purseOf(0), 0);
        s.certify(0);
        s.pass(12);
        Due.answer("purseOf(0) behind both fines", s.purseOf(0), -28);
        s.certify(0);
        s.pass(24);
        Due.answer("purseOf(0) behind a reward", s.purseOf(0), -25);
    }

    private static void hatAtFirst() {
        Due.sentence("each wears a hat, at first the own one, or none");
        ShadowSociety s = new ShadowSociety();
        s.join(40, 0);
        s.join(40, 1);
        s.join(40, 20);
        int[] whose = {-1, 1, 2};
        int[] height = {0, 1, 20};
        for (int m = 0; m < 3; m++) {
            Due.answer("wears(" + m + ")", s.wears(m), whose[m]);
            Due.answer("hatOn(" + m + ")", s.hatOn(m), height[m]);
            Due.answer("hasLent(" + m + ")", s.hasLent(m), false);
        }
    }

    private static void hatAtHome() {
        Due.sentence("or it is at home, while its owner wears a borrowed one");
        ShadowSociety s = Scenes.four();
        s.borrow(0, 2);
        for (int m = 0; m < 4; m++) {
            Due.answer("wears(" + m + ") is 0", s.wears(m) == 0, false);
        }
        Due.answer("hasLent(0)", s.hasLent(0), false);
        s.giveBack(0);
        Due.answer("wears(0)", s.wears(0), 0);
    }

    private static void oneHatAtATime() {
        Due.sentence("One wears one hat at a time");
        ShadowSociety s = at(8, Scenes.four());
        s.borrow(2, 0);
        Due.answer("hatOn(2), not 16", s.hatOn(2), 6);
        Due.answer("shadowOf(2), not 142", s.shadowOf(2), 122);
        s.giveBack(2);
        Due.answer("hatOn(2)", s.hatOn(2), 10);
        Due.answer("shadowOf(2)", s.shadowOf(2), 130);
    }

    private static void lenderWearsNone() {
        Due.sentence("who lent the own hat wears none, unless this one borrows another");
        ShadowSociety s = at(8, Scenes.four());
        s.borrow(1, 2);
        Due.answer("wears(2)", s.wears(2), -1);
        Due.answer("hatOn(2)", s.hatOn(2), 0);
        Due.answer("shadowOf(2)", s.shadowOf(2), 110);
        s.borrow(2, 3);
        Due.answer("wears(2)", s.wears(2), 3);
        Due.answer("hatOn(2)", s.hatOn(2), 3);
        Due.answer("shadowOf(2)", s.shadowOf(2), 116);
        Due.answer("hasLent(2)", s.hasLent(2), true);
    }

    private static void noShadowWithoutSun() {
        Due.sentence("Natural shadow of a member: .. 0 without sun.");
        ShadowSociety s = new ShadowSociety();
        s.join(99, 20);
        s.join(1, 0);
        for (int hour = 0; hour < 24; hour++) {
            boolean sun = hour >= 7 && hour <= 17;
            int steps = hour > 12 ? hour - 12 : 12 - hour;
            Due.answer("shadowOf(0) at " + hour, s.shadowOf(0), sun ? 119 * steps / 2 : 0);
            Due.answer("shadowOf(1) at " + hour, s.shadowOf(1), sun ? steps / 2 : 0);
            s.pass(1);
        }
    }

    private static void lampAtEachHour() {
        Due.sentence(
            "Shadow: the natural one, and 3 times the brightness of the lamp, added, at each hour of the day.");
        ShadowSociety s = new ShadowSociety();
        s.join(40, 0);
        s.join(40, 0);
        s.buyLamp(0, 1);
        s.buyLamp(1, 9);
        for (int hour = 0; hour < 24; hour++) {
            Due.answer("shadowOf(0) at " + hour, s.shadowOf(0), 20 * Scenes.STEPS[hour] + 3);
            Due.answer("shadowOf(1) at " + hour, s.shadowOf(1), 20 * Scenes.STEPS[hour] + 27);
            s.pass(1);
            if (s.hour() == 12) {
                s.buyLamp(0, 1);
                s.buyLamp(1, 9);
            }
        }
    }

    private static void honestShadowWithTheOwnHat() {
        Due.sentence("Honest shadow at an hour of the day: as the natural one would be then, with the own hat.");
        ShadowSociety s = Scenes.four();
        s.buyLamp(0, 9);
        s.buyLamp(1, 9);
        s.buyLamp(2, 9);
        s.borrow(1, 2);
        s.borrow(0, 3);
        int[] withOwnHat = {46, 60, 65, 33};
        for (int m = 0; m < 4; m++) {
            for (int hour = 0; hour < 24; hour++) {
                int due = withOwnHat[m] * Scenes.STEPS[hour] / 2;
                Due.answer("honestShadow(" + m + ", " + hour + ")", s.honestShadow(m, hour), due);
            }
        }
    }

    private static void certificateAsItWas() {
        Due.sentence("Certificate: of the shadow as it was when it was certified");
        ShadowSociety s = at(8, Scenes.four());
        s.buyLamp(0, 2);
        s.borrow(1, 2);
        for (int m = 0; m < 4; m++) {
            s.certify(m);
        }
        s.dropLamp(0);
        s.giveBack(1);
        s.borrow(1, 3);
        s.buyLamp(3, 9);
        s.pass(3);
        int[] lengths = {98, 140, 110, 66};
        boolean[] honest = {false, false, false, true};
        for (int m = 0; m < 4; m++) {
            Due.answer("certified(" + m + ") later", s.certified(m), lengths[m]);
            Due.answer("isHonest(" + m + ") later", s.isHonest(m), honest[m]);
        }
    }

    private static void certificateOfTheHourOfTheDay() {
        Due.sentence("Certificate: .. and of that hour of the day.");
        for (int hour = 0; hour < 24; hour++) {
            ShadowSociety s = at(24 + hour, Scenes.four());
            s.certify(0);
            for (int later = 0; later < 24; later++) {
                Due.answer("isHonest(0) of " + hour + ", " + later + " hours later", s.isHonest(0), true);
                s.pass(1);
            }
            Due.answer("certified(0) of " + hour, s.certified(0), 23 * Scenes.STEPS[hour]);
        }
    }

    private static void honestIfJustAsLong() {
        Due.sentence("It is honest, if that was the honest shadow of this hour.");
        ShadowSociety s = new ShadowSociety();
        s.join(40, 5);
        s.join(40, 6);
        s.join(40, 4);
        s.pass(10);
        s.certify(0);
        Due.answer("isHonest(0), 45 for 45", s.isHonest(0), true);
        s.borrow(0, 1);
        s.certify(0);
        Due.answer("isHonest(0), 46 for 45", s.isHonest(0), false);
        s.giveBack(0);
        s.borrow(0, 2);
        s.certify(0);
        Due.answer("isHonest(0), 44 for 45", s.isHonest(0), false);
        s.giveBack(0);
        s.buyLamp(0, 1);
        s.certify(0);
        Due.answer("isHonest(0), 48 for 45", s.isHonest(0), false);
        ShadowSociety night = Scenes.four();
        night.certify(0);
        Due.answer("isHonest(0), 0 for 0", night.isHonest(0), true);
        night.buyLamp(0, 1);
        night.certify(0);
        Due.answer("isHonest(0), 3 for 0", night.isHonest(0), false);
    }

    private static void honestByChance() {
        Due.sentence("It is honest, if that was the honest shadow of this hour.");
        ShadowSociety s = new ShadowSociety();
        s.join(40, 3);
        s.join(40, 3);
        s.join(40, 2);
        s.join(40, 0);
        s.join(40, 6);
        s.pass(10);
        s.borrow(0, 1);
        s.certify(0);
        Due.answer("isHonest(0) with as high a hat of another", s.isHonest(0), true);
        s.buyLamp(1, 1);
        s.certify(1);
        Due.answer("isHonest(1), the own hat lent and a lamp", s.isHonest(1), true);
        s.pass(2);
        s.borrow(2, 4);
        s.certify(2);
        Due.answer("isHonest(2) at noon with a borrowed hat", s.isHonest(2), true);
        s.pass(1);
        s.borrow(3, 0);
        s.certify(3);
        Due.answer("isHonest(3) with a borrowed hat, 43 / 2 for 40 / 2", s.isHonest(3), false);
        ShadowSociety cut = new ShadowSociety();
        cut.join(40, 0);
        cut.join(40, 1);
        cut.pass(11);
        cut.borrow(0, 1);
        cut.certify(0);
        Due.answer("isHonest(0) with a borrowed hat, 41 / 2 for 40 / 2", cut.isHonest(0), true);
    }

    private static void auditAt12Alone() {
        Due.sentence("the hour is 1 greater; if the hour of the day is 12 then, there is an audit");
        ShadowSociety s = new ShadowSociety();
        s.join(40, 6);
        s.certify(0);
        for (int hour = 1; hour <= 80; hour++) {
            s.pass(1);
            int audits = (hour + 12) / 24;
            Due.answer("purseOf(0) at " + hour, s.purseOf(0), 50 + 3 * audits);
        }
        int[] hours = {11, 12, 35, 36, 59, 60, 72};
        int[] purses = {50, 53, 53, 56, 56, 59, 59};
        for (int i = 0; i < hours.length; i++) {
            ShadowSociety atOnce = new ShadowSociety();
            atOnce.join(40, 6);
            atOnce.certify(0);
            atOnce.pass(hours[i]);
            Due.answer("purseOf(0) behind pass(" + hours[i] + ")", atOnce.purseOf(0), purses[i]);
        }
    }

    private static void lampCostsAtTheAudit() {
        Due.sentence("a lamp is seized (there is none then), and costs 2 for each of its brightness");
        ShadowSociety s = Scenes.four();
        s.buyLamp(0, 1);
        s.buyLamp(1, 9);
        s.buyLamp(2, 9);
        s.dropLamp(2);
        s.pass(12);
        int[] purses = {47, 23, 41, 50};
        for (int m = 0; m < 4; m++) {
            Due.answer("lampOf(" + m + ")", s.lampOf(m), 0);
            Due.answer("purseOf(" + m + ")", s.purseOf(m), purses[m]);
        }
        Due.answer("seized()", s.seized(), 2);
        s.pass(24);
        Due.answer("purseOf(1), no lamp a day later", s.purseOf(1), 23);
        Due.answer("seized(), no lamp a day later", s.seized(), 2);
    }

    private static void hatsGoBackAtTheAudit() {
        Due.sentence("All borrowed hats go back, each owner wears the own one.");
        ShadowSociety s = Scenes.four();
        s.borrow(0, 2);
        s.borrow(2, 3);
        s.pass(11);
        Due.answer("wears(0) at 11", s.wears(0), 2);
        Due.answer("wears(2) at 11", s.wears(2), 3);
        s.pass(1);
        int[] whose = {0, -1, 2, 3};
        int[] height = {6, 0, 10, 3};
        for (int m = 0; m < 4; m++) {
            Due.answer("wears(" + m + ")", s.wears(m), whose[m]);
            Due.answer("hatOn(" + m + ")", s.hatOn(m), height[m]);
            Due.answer("hasLent(" + m + ")", s.hasLent(m), false);
        }
        s.borrow(1, 0);
        s.pass(24);
        Due.answer("wears(1), who has no hat", s.wears(1), -1);
        Due.answer("wears(0)", s.wears(0), 0);
    }

    private static void certificatesAtTheAudit() {
        Due.sentence("a certificate that is not honest is revoked (there is none then), and costs 10");
        ShadowSociety s = at(8, Scenes.four());
        s.borrow(1, 2);
        s.certify(1);
        s.certify(2);
        s.certify(3);
        Due.answer("pass(4)", s.pass(4), 2);
        int[] purses = {50, 40, 40, 53};
        int[] lengths = {-1, -1, -1, 66};
        for (int m = 0; m < 4; m++) {
            Due.answer("purseOf(" + m + ")", s.purseOf(m), purses[m]);
            Due.answer("certified(" + m + ")", s.certified(m), lengths[m]);
        }
        Due.answer("pass(24), none is left", s.pass(24), 0);
        Due.answer("purseOf(1), none is left", s.purseOf(1), 40);
        Due.answer("purseOf(0), who has none", s.purseOf(0), 50);
    }

    private static void honestStays() {
        Due.sentence("one that is honest brings 3, and stays");
        ShadowSociety s = at(8, Scenes.four());
        s.certify(0);
        for (int day = 1; day <= 5; day++) {
            s.pass(24);
            Due.answer("purseOf(0) behind audit " + day, s.purseOf(0), 50 + 3 * day);
            Due.answer("certified(0) behind audit " + day, s.certified(0), 92);
            Due.answer("isHonest(0) behind audit " + day, s.isHonest(0), true);
        }
        s.buyLamp(0, 9);
        s.pass(24);
        Due.answer("purseOf(0) with a lamp seized as well", s.purseOf(0), 65 - 9 - 18 + 3);
    }

    private static void expelledBehindThree() {
        Due.sentence("Who had 3 revoked in all is expelled");
        ShadowSociety s = Scenes.four();
        boolean[] isFalse = {true, false, true, false, true};
        for (boolean bad : isFalse) {
            Due.answer("isExpelled(0) at " + s.hour(), s.isExpelled(0), false);
            if (bad) {
                Scenes.certifyFalsely(s, 0);
            } else {
                s.certify(0);
            }
            s.pass(11);
            Due.answer("isExpelled(0) ahead of the audit", s.isExpelled(0), false);
            s.pass(13);
        }
        Due.answer("isExpelled(0)", s.isExpelled(0), true);
        Due.answer("revoked()", s.revoked(), 3);
    }

    private static void expelledByTheOwnOnesAlone() {
        Due.sentence("Who had 3 revoked in all is expelled");
        ShadowSociety s = Scenes.four();
        for (int day = 0; day < 2; day++) {
            for (int m = 0; m < 4; m++) {
                Scenes.certifyFalsely(s, m);
            }
            s.pass(24);
        }
        Due.answer("revoked()", s.revoked(), 8);
        for (int m = 0; m < 4; m++) {
            Due.answer("isExpelled(" + m + ") with two of them", s.isExpelled(m), false);
        }
        Scenes.certifyFalsely(s, 2);
        s.pass(24);
        for (int m = 0; m < 4; m++) {
            Due.answer("isExpelled(" + m + ")", s.isExpelled(m), m == 2);
        }
    }

    private static void noOtherCertificate() {
        Due.sentence("is expelled: no other certificate is given");
        ShadowSociety s = Scenes.expelled();
        Due.answer("certificates()", s.certificates(), 0);
        Due.answer("certify(0)", Due.thrownBy(() -> s.certify(0)), Due.ILLEGAL_STATE);
        Due.answer("certified(0)", s.certified(0), -1);
        Due.answer("auditBrings(0)", s.auditBrings(0), 0);
        s.pass(72);
        Due.answer("isExpelled(0) for good", s.isExpelled(0), true);
        Due.answer("certify(0) days later", Due.thrownBy(() -> s.certify(0)), Due.ILLEGAL_STATE);
        Due.answer("all else is allowed: buyLamp(0, 9)", s.buyLamp(0, 9), 8);
        Due.answer("all else is allowed: borrow(0, 2)", s.borrow(0, 2), 10);
        Due.answer("purseOf(0) ahead of the audit", s.purseOf(0), 8);
        s.pass(24);
        Due.answer("purseOf(0) behind the audit", s.purseOf(0), -10);
    }
}
