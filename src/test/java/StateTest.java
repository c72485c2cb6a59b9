/** Promises 9 to 21: what there is. What the calls refuse stands in RefusalsTest. */
public final class StateTest {
    public static void main(String[] args) {
        membersFromNoneToTen();
        hours();
        hoursOfTheDay();
        seizedInAll();
        seizedLampsAlone();
        revokedInAll();
        certificatesFromNoneToTen();
        certificatesComeAndGo();
        honestOnesFromNoneToTen();
        honestOnesOfThem();
        lampOrNone();
        purses();
        whoseHatOrNone();
        heightOfHatOrNone();
        lentToAnother();
        lentByNobody();
        expelledOrNot();
        Due.end();
    }

    private static void membersFromNoneToTen() {
        Due.sentence("9: Returns how many members there are.");
        ShadowSociety s = new ShadowSociety();
        for (int i = 0; i < 10; i++) {
            Due.answer("members()", s.members(), i);
            s.join(20 + i, i);
        }
        Due.answer("members()", s.members(), 10);
        Due.refusal(s, "join(20, 5)", Due.ILLEGAL_STATE, () -> s.join(20, 5));
        Due.answer("members() behind a refused call", s.members(), 10);
        Due.answer("members() with an expelled one", Scenes.expelled().members(), 4);
    }

    private static void hours() {
        Due.sentence("10: Returns the hour.");
        ShadowSociety s = new ShadowSociety();
        for (int i = 0; i < 100; i++) {
            Due.answer("hour()", s.hour(), i);
            s.pass(1);
        }
        s.pass(68);
        Due.answer("hour()", s.hour(), 168);
    }

    private static void hoursOfTheDay() {
        Due.sentence("11: Returns the hour of the day.");
        ShadowSociety s = new ShadowSociety();
        for (int i = 0; i < 100; i++) {
            Due.answer("hourOfDay()", s.hourOfDay(), i % 24);
            s.pass(1);
        }
        s.pass(67);
        Due.answer("hourOfDay() at 167", s.hourOfDay(), 23);
        s.pass(1);
        Due.answer("hourOfDay() at 168", s.hourOfDay(), 0);
    }

    private static void seizedInAll() {
        Due.sentence("12: Returns how many lamps were seized in all.");
        ShadowSociety s = Scenes.ten();
        Due.answer("seized(), none", s.seized(), 0);
        for (int m = 0; m < 10; m++) {
            s.buyLamp(m, 1 + m % 9);
        }
        s.pass(11);
        Due.answer("seized() at 11", s.seized(), 0);
        s.pass(1);
        Due.answer("seized() at 12, ten whatever their brightness", s.seized(), 10);
        s.buyLamp(4, 2);
        s.pass(24);
        Due.answer("seized() a day later", s.seized(), 11);
        s.pass(72);
        Due.answer("seized() without lamps", s.seized(), 11);
    }

    private static void seizedLampsAlone() {
        Due.sentence("12: .. lamps were seized");
        ShadowSociety s = Scenes.four();
        s.buyLamp(0, 9);
        s.dropLamp(0);
        s.buyLamp(1, 9);
        s.dropLamp(1);
        s.buyLamp(1, 9);
        s.pass(12);
        Due.answer("seized(), not those thrown away", s.seized(), 1);
    }

    private static void revokedInAll() {
        Due.sentence("13: Returns how many certificates were revoked in all.");
        ShadowSociety s = Scenes.four();
        Due.answer("revoked(), none", s.revoked(), 0);
        Scenes.certifyFalsely(s, 0);
        Scenes.certifyFalsely(s, 0);
        s.certify(1);
        s.pass(11);
        Due.answer("revoked() at 11", s.revoked(), 0);
        s.pass(1);
        Due.answer("revoked() at 12, not the replaced and the honest ones", s.revoked(), 1);
        Scenes.certifyFalsely(s, 0);
        Scenes.certifyFalsely(s, 2);
        s.pass(24);
        Due.answer("revoked() a day later", s.revoked(), 3);
        s.pass(72);
        Due.answer("revoked() without false ones", s.revoked(), 3);
        Due.answer("revoked() with an expelled one", Scenes.expelled().revoked(), 3);
    }

    private static void certificatesFromNoneToTen() {
        Due.sentence("14: Returns how many certificates there are.");
        ShadowSociety s = Scenes.ten();
        for (int m = 0; m < 10; m++) {
            Due.answer("certificates()", s.certificates(), m);
            s.certify(m);
        }
        Due.answer("certificates(), by night of a length of 0", s.certificates(), 10);
        Due.answer("certificates() without members", new ShadowSociety().certificates(), 0);
    }

    private static void certificatesComeAndGo() {
        Due.sentence("14: .. how many .. there are.");
        ShadowSociety s = Scenes.busy();
        Due.answer("certificates()", s.certificates(), 3);
        s.certify(1);
        Due.answer("certificates(), one in the place of another", s.certificates(), 3);
        s.pass(4);
        Due.answer("certificates(), two revoked", s.certificates(), 1);
        s.certify(1);
        Due.answer("certificates(), certified anew", s.certificates(), 2);
        Due.answer("certificates() of who is expelled", Scenes.expelled().certificates(), 0);
    }

    private static void honestOnesFromNoneToTen() {
        Due.sentence("15: Returns how many of them are honest.");
        ShadowSociety s = Scenes.ten();
        Due.answer("honestOnes() without certificates", s.honestOnes(), 0);
        for (int m = 0; m < 10; m++) {
            Scenes.certifyFalsely(s, m);
        }
        Due.answer("honestOnes(), all false", s.honestOnes(), 0);
        for (int m = 0; m < 10; m++) {
            s.certify(m);
            Due.answer("honestOnes()", s.honestOnes(), m + 1);
        }
        Due.answer("honestOnes() without members", new ShadowSociety().honestOnes(), 0);
    }

    private static void honestOnesOfThem() {
        Due.sentence("15: .. of them are honest.");
        ShadowSociety s = Scenes.busy();
        Due.answer("honestOnes()", s.honestOnes(), 1);
        s.giveBack(1);
        Due.answer("honestOnes() with the hat given back", s.honestOnes(), 1);
        s.certify(1);
        Due.answer("honestOnes() with one certified anew", s.honestOnes(), 2);
        s.pass(4);
        Due.answer("honestOnes() behind the audit", s.honestOnes(), 2);
    }

    private static void lampOrNone() {
        Due.sentence("16: Returns the brightness of the lamp; 0 without one.");
        ShadowSociety s = Scenes.four();
        Due.answer("lampOf(0), never one", s.lampOf(0), 0);
        for (int brightness = 1; brightness <= 9; brightness += 4) {
            s.buyLamp(0, brightness);
            Due.answer("lampOf(0)", s.lampOf(0), brightness);
            s.dropLamp(0);
            Due.answer("lampOf(0), thrown away", s.lampOf(0), 0);
        }
        s.buyLamp(1, 8);
        Due.answer("lampOf(1)", s.lampOf(1), 8);
        Due.answer("lampOf(0), not that of another one", s.lampOf(0), 0);
        s.pass(11);
        Due.answer("lampOf(1) at 11", s.lampOf(1), 8);
        s.pass(1);
        Due.answer("lampOf(1), seized", s.lampOf(1), 0);
    }

    private static void purses() {
        Due.sentence("17: Returns the purse.");
        ShadowSociety s = Scenes.four();
        Due.answer("purseOf(0)", s.purseOf(0), 50);
        Scenes.spendDownTo(s, 0, 1);
        Due.answer("purseOf(0)", s.purseOf(0), 1);
        s.buyLamp(0, 1);
        Due.answer("purseOf(0) with none left", s.purseOf(0), 0);
        s.pass(12);
        Due.answer("purseOf(0) less than 0", s.purseOf(0), -2);
        Due.answer("purseOf(1) of another one", s.purseOf(1), 50);
    }

    private static void whoseHatOrNone() {
        Due.sentence("18: Returns whose hat this one wears; -1 for none.");
        ShadowSociety s = Scenes.four();
        Due.answer("wears(0), the own one", s.wears(0), 0);
        Due.answer("wears(1), who has none", s.wears(1), -1);
        s.borrow(1, 0);
        Due.answer("wears(1), that of 0", s.wears(1), 0);
        Due.answer("wears(0), who lent it", s.wears(0), -1);
        s.borrow(0, 3);
        Due.answer("wears(0), that of 3", s.wears(0), 3);
        Due.answer("wears(3), who lent it", s.wears(3), -1);
        s.pass(12);
        int[] behindTheAudit = {0, -1, 2, 3};
        for (int m = 0; m < 4; m++) {
            Due.answer("wears(" + m + ") behind the audit", s.wears(m), behindTheAudit[m]);
        }
    }

    private static void heightOfHatOrNone() {
        Due.sentence("19: Returns the height of the hat that is worn; 0 for none.");
        ShadowSociety s = new ShadowSociety();
        s.join(40, 0);
        s.join(40, 1);
        s.join(40, 20);
        Due.answer("hatOn(0), who has none", s.hatOn(0), 0);
        Due.answer("hatOn(1), the own one", s.hatOn(1), 1);
        Due.answer("hatOn(2), the own one", s.hatOn(2), 20);
        s.borrow(0, 2);
        Due.answer("hatOn(0), a borrowed one", s.hatOn(0), 20);
        Due.answer("hatOn(2), who lent it", s.hatOn(2), 0);
        s.borrow(2, 1);
        Due.answer("hatOn(2), a borrowed one", s.hatOn(2), 1);
        s.giveBack(2);
        Due.answer("hatOn(2), given back", s.hatOn(2), 0);
    }

    private static void lentToAnother() {
        Due.sentence("20: Returns whether the own hat is lent to another one.");
        ShadowSociety s = Scenes.four();
        Due.answer("hasLent(2) with it on", s.hasLent(2), false);
        s.borrow(1, 2);
        Due.answer("hasLent(2)", s.hasLent(2), true);
        s.borrow(2, 0);
        Due.answer("hasLent(2) with a borrowed one on", s.hasLent(2), true);
        s.giveBack(1);
        Due.answer("hasLent(2), given back", s.hasLent(2), false);
        s.giveBack(2);
        s.borrow(3, 2);
        Due.answer("hasLent(2), lent again", s.hasLent(2), true);
        s.pass(12);
        Due.answer("hasLent(2) behind the audit", s.hasLent(2), false);
    }

    private static void lentByNobody() {
        Due.sentence("20: .. is lent to another one.");
        ShadowSociety s = Scenes.four();
        Due.answer("hasLent(1), who has none", s.hasLent(1), false);
        s.borrow(1, 2);
        Due.answer("hasLent(1), who borrowed one", s.hasLent(1), false);
        s.borrow(0, 3);
        Due.answer("hasLent(0), with it at home", s.hasLent(0), false);
    }

    private static void expelledOrNot() {
        Due.sentence("21: Returns whether this one is expelled.");
        ShadowSociety s = Scenes.four();
        for (int revoked = 0; revoked < 3; revoked++) {
            Due.answer("isExpelled(0) with " + revoked + " revoked", s.isExpelled(0), false);
            Scenes.certifyFalsely(s, 0);
            s.pass(24);
        }
        Due.answer("isExpelled(0) with 3 revoked", s.isExpelled(0), true);
        for (int m = 1; m < 4; m++) {
            Due.answer("isExpelled(" + m + ")", s.isExpelled(m), false);
        }
        s.pass(72);
        Due.answer("isExpelled(0) for good", s.isExpelled(0), true);
    }
}
