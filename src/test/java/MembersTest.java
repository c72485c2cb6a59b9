/** Promises 1 to 8: a new object, and the calls that change it. What they refuse stands in RefusalsTest. */
public final class MembersTest {
    public static void main(String[] args) {
        newObject();
        newObjectOfItsOwn();
        joinAnswersNumbers();
        joinOfTheLeastAndTheMost();
        joinLater();
        buyLampCosts();
        buyLampAnswersThePurse();
        dropLampAnswers();
        dropLampPaysNothing();
        borrowAnswersTheHeight();
        borrowTakesItOff();
        borrowLeavesTheOwnOneAtHome();
        borrowInAChainOfTen();
        giveBackAnswersTheOwner();
        giveBackToAnOwnerWithoutHat();
        giveBackToAnOwnerWithABorrowedHat();
        giveBackAndWearTheOwnOne();
        giveBackWithTheOwnHatLent();
        giveBackWithoutOwnHat();
        certifyAnswersTheShadow();
        certifyInThePlaceOfAnother();
        passOfTheLeastAndTheMost();
        passWithoutMembers();
        passCountsRevocations();
        passCountsTheseHoursAlone();
        Due.end();
    }

    private static void newObject() {
        Due.sentence("1: Creates a society without members, at the hour 0.");
        ShadowSociety s = new ShadowSociety();
        Due.answer("members()", s.members(), 0);
        Due.answer("hour()", s.hour(), 0);
        Due.answer("hourOfDay()", s.hourOfDay(), 0);
        Due.answer("seized()", s.seized(), 0);
        Due.answer("revoked()", s.revoked(), 0);
        Due.answer("certificates()", s.certificates(), 0);
        Due.answer("honestOnes()", s.honestOnes(), 0);
        Due.answer("longest()", s.longest(), -1);
        Due.answer("hoursUntilAudit()", s.hoursUntilAudit(), 12);
        Due.answer("richestThen()", s.richestThen(), -1);
        Due.answer("meanShadow()", s.meanShadow(), 0.0);
    }

    private static void newObjectOfItsOwn() {
        Due.sentence("1: Creates a society without members");
        ShadowSociety s = new ShadowSociety();
        ShadowSociety other = new ShadowSociety();
        s.join(10, 1);
        s.buyLamp(0, 1);
        s.certify(0);
        s.pass(12);
        Due.answer("members() of another one", other.members(), 0);
        Due.answer("hour() of another one", other.hour(), 0);
        Due.answer("seized() of another one", other.seized(), 0);
        Due.answer("revoked() of another one", other.revoked(), 0);
    }

    private static void joinAnswersNumbers() {
        Due.sentence("At most 10, numbered from 0");
        ShadowSociety s = new ShadowSociety();
        for (int i = 0; i < 10; i++) {
            Due.answer("join(50, 5) beside " + i, s.join(50, 5), i);
            Due.answer("members()", s.members(), i + 1);
        }
    }

    private static void joinOfTheLeastAndTheMost() {
        Due.sentence("each has a height, 1 to 99, a hat of a height of 0 to 20 (0: none)");
        ShadowSociety s = new ShadowSociety();
        Due.answer("join(1, 0)", s.join(1, 0), 0);
        Due.answer("join(1, 20)", s.join(1, 20), 1);
        Due.answer("join(99, 0)", s.join(99, 0), 2);
        Due.answer("join(99, 20)", s.join(99, 20), 3);
        Due.answer("join(1, 1)", s.join(1, 1), 4);
        int[] honestAt8 = {2, 42, 198, 238, 4};
        for (int m = 0; m < honestAt8.length; m++) {
            Due.answer("honestShadow(" + m + ", 8)", s.honestShadow(m, 8), honestAt8[m]);
        }
    }

    private static void joinLater() {
        Due.sentence("a purse, .. (50, at first), perhaps a lamp .., and perhaps a certificate; each wears a hat");
        ShadowSociety s = Scenes.busy();
        s.pass(4);
        Due.answer("join(40, 6) at noon", s.join(40, 6), 4);
        Due.answer("purseOf(4)", s.purseOf(4), 50);
        Due.answer("lampOf(4)", s.lampOf(4), 0);
        Due.answer("wears(4)", s.wears(4), 4);
        Due.answer("certified(4)", s.certified(4), -1);
        Due.answer("isExpelled(4)", s.isExpelled(4), false);
        s.certify(4);
        s.pass(23);
        Due.answer("purseOf(4) ahead of the first audit", s.purseOf(4), 50);
        s.pass(1);
        Due.answer("purseOf(4) behind the first audit", s.purseOf(4), 53);
    }

    private static void buyLampCosts() {
        Due.sentence("3: Buys a lamp, which costs as many as its brightness.");
        for (int brightness = 1; brightness <= 9; brightness++) {
            ShadowSociety s = Scenes.four();
            s.buyLamp(2, brightness);
            Due.answer("lampOf(2)", s.lampOf(2), brightness);
            Due.answer("purseOf(2)", s.purseOf(2), 50 - brightness);
            Due.answer("lampOf(1) of another one", s.lampOf(1), 0);
            Due.answer("purseOf(1) of another one", s.purseOf(1), 50);
        }
    }

    private static void buyLampAnswersThePurse() {
        Due.sentence("3: Returns the purse then.");
        ShadowSociety s = Scenes.four();
        int purse = 50;
        for (int i = 0; i < 5; i++) {
            purse -= 9;
            Due.answer("buyLamp(0, 9)", s.buyLamp(0, 9), purse);
            s.dropLamp(0);
        }
        Due.answer("buyLamp(0, 4)", s.buyLamp(0, 4), 1);
        s.dropLamp(0);
        Due.answer("buyLamp(0, 1) with the last one", s.buyLamp(0, 1), 0);
    }

    private static void dropLampAnswers() {
        Due.sentence("4: Returns its brightness.");
        ShadowSociety s = Scenes.four();
        s.buyLamp(1, 2);
        for (int brightness = 1; brightness <= 9; brightness++) {
            s.buyLamp(0, brightness);
            Due.answer("dropLamp(0)", s.dropLamp(0), brightness);
            Due.answer("lampOf(0)", s.lampOf(0), 0);
        }
        Due.answer("lampOf(1)", s.lampOf(1), 2);
    }

    private static void dropLampPaysNothing() {
        Due.sentence("4: Throws a lamp away.");
        ShadowSociety s = Scenes.four();
        s.buyLamp(0, 7);
        s.dropLamp(0);
        Due.answer("purseOf(0)", s.purseOf(0), 43);
        Due.answer("shadowOf(0)", s.shadowOf(0), 0);
        s.pass(12);
        Due.answer("purseOf(0) behind the audit", s.purseOf(0), 43);
        Due.answer("seized()", s.seized(), 0);
    }

    private static void borrowAnswersTheHeight() {
        Due.sentence("5: Returns its height.");
        ShadowSociety s = new ShadowSociety();
        s.join(40, 0);
        s.join(40, 1);
        s.join(40, 20);
        Due.answer("borrow(0, 1)", s.borrow(0, 1), 1);
        Due.answer("borrow(1, 2)", s.borrow(1, 2), 20);
    }

    private static void borrowTakesItOff() {
        Due.sentence("5: A member borrows the hat of another one, who wears it, and takes it off to lend it");
        ShadowSociety s = Scenes.four();
        s.borrow(1, 2);
        Due.answer("wears(1)", s.wears(1), 2);
        Due.answer("hatOn(1)", s.hatOn(1), 10);
        Due.answer("wears(2)", s.wears(2), -1);
        Due.answer("hatOn(2)", s.hatOn(2), 0);
        Due.answer("hasLent(2)", s.hasLent(2), true);
        Due.answer("wears(0)", s.wears(0), 0);
    }

    private static void borrowLeavesTheOwnOneAtHome() {
        Due.sentence("5: the own one, if it is worn, stays at home.");
        ShadowSociety s = Scenes.four();
        s.borrow(0, 2);
        Due.answer("wears(0)", s.wears(0), 2);
        Due.answer("hasLent(0)", s.hasLent(0), false);
        s.borrow(2, 3);
        Due.answer("wears(2), the own one being lent", s.wears(2), 3);
        Due.answer("hasLent(2), still", s.hasLent(2), true);
        Due.answer("wears(0), still", s.wears(0), 2);
    }

    private static void borrowInAChainOfTen() {
        Due.sentence("A hat is worn by its owner, or by one who borrowed it, or it is at home");
        ShadowSociety s = new ShadowSociety();
        for (int i = 0; i < 10; i++) {
            s.join(40, i + 1);
        }
        for (int m = 0; m < 9; m++) {
            Due.answer("borrow(" + m + ", " + (m + 1) + ")", s.borrow(m, m + 1), m + 2);
        }
        Due.refusal(s, "borrow(9, 0), whose hat is at home", Due.ILLEGAL_STATE, () -> s.borrow(9, 0));
        for (int m = 0; m < 9; m++) {
            Due.answer("wears(" + m + ")", s.wears(m), m + 1);
            Due.answer("hasLent(" + m + ")", s.hasLent(m), m > 0);
        }
        Due.answer("wears(9)", s.wears(9), -1);
        for (int m = 8; m >= 0; m--) {
            Due.answer("giveBack(" + m + ")", s.giveBack(m), m + 1);
            Due.answer("wears(" + (m + 1) + ")", s.wears(m + 1), m + 1);
            Due.answer("wears(" + m + ")", s.wears(m), m == 0 ? 0 : -1);
        }
    }

    private static void giveBackAnswersTheOwner() {
        Due.sentence("6: Returns whose hat it was.");
        ShadowSociety s = Scenes.ten();
        s.borrow(1, 9);
        s.borrow(0, 2);
        s.borrow(9, 3);
        Due.answer("giveBack(1)", s.giveBack(1), 9);
        Due.answer("giveBack(0)", s.giveBack(0), 2);
        Due.answer("giveBack(9)", s.giveBack(9), 3);
        s.borrow(9, 1);
        Due.answer("giveBack(9) of another one", s.giveBack(9), 1);
    }

    private static void giveBackToAnOwnerWithoutHat() {
        Due.sentence("6: and the owner wears it then");
        ShadowSociety s = Scenes.four();
        s.borrow(0, 2);
        s.giveBack(0);
        Due.answer("wears(2)", s.wears(2), 2);
        Due.answer("hatOn(2)", s.hatOn(2), 10);
        Due.answer("hasLent(2)", s.hasLent(2), false);
        Due.answer("borrow(1, 2) again", s.borrow(1, 2), 10);
    }

    private static void giveBackToAnOwnerWithABorrowedHat() {
        Due.sentence("6: the owner wears it then, if this one wears no borrowed one");
        ShadowSociety s = Scenes.four();
        s.borrow(0, 2);
        s.borrow(2, 3);
        Due.answer("giveBack(0)", s.giveBack(0), 2);
        Due.answer("wears(2), still the borrowed one", s.wears(2), 3);
        Due.answer("hasLent(2) with the hat at home", s.hasLent(2), false);
        Due.refusal(s, "borrow(1, 2) of the hat at home", Due.ILLEGAL_STATE, () -> s.borrow(1, 2));
        Due.answer("giveBack(2)", s.giveBack(2), 3);
        Due.answer("wears(2), the own one from home", s.wears(2), 2);
        Due.answer("wears(3)", s.wears(3), 3);
    }

    private static void giveBackAndWearTheOwnOne() {
        Due.sentence("6: who gives it back wears the own one then");
        ShadowSociety s = Scenes.four();
        s.borrow(0, 2);
        s.giveBack(0);
        Due.answer("wears(0)", s.wears(0), 0);
        Due.answer("hatOn(0)", s.hatOn(0), 6);
        Due.answer("borrow(3, 0)", s.borrow(3, 0), 6);
    }

    private static void giveBackWithTheOwnHatLent() {
        Due.sentence("6: who gives it back wears the own one then, if it is not lent.");
        ShadowSociety s = Scenes.four();
        s.borrow(0, 2);
        s.borrow(2, 3);
        Due.answer("giveBack(2) with the own hat lent", s.giveBack(2), 3);
        Due.answer("wears(2), none", s.wears(2), -1);
        Due.answer("hasLent(2)", s.hasLent(2), true);
        Due.answer("wears(0), still the lent one", s.wears(0), 2);
        Due.answer("wears(3)", s.wears(3), 3);
        Due.answer("giveBack(0)", s.giveBack(0), 2);
        Due.answer("wears(2)", s.wears(2), 2);
    }

    private static void giveBackWithoutOwnHat() {
        Due.sentence("6: who gives it back wears the own one then .. a hat of a height of 0 to 20 (0: none)");
        ShadowSociety s = Scenes.four();
        s.borrow(1, 0);
        Due.answer("giveBack(1)", s.giveBack(1), 0);
        Due.answer("wears(1), none", s.wears(1), -1);
        Due.answer("hatOn(1), none", s.hatOn(1), 0);
        Due.answer("wears(0)", s.wears(0), 0);
        Due.refusal(s, "borrow(3, 1)", Due.ILLEGAL_STATE, () -> s.borrow(3, 1));
    }

    private static void certifyAnswersTheShadow() {
        Due.sentence("7: Returns its length.");
        ShadowSociety s = Scenes.four();
        Due.answer("certify(0) by night", s.certify(0), 0);
        s.buyLamp(1, 9);
        Due.answer("certify(1) by night with a lamp", s.certify(1), 27);
        s.pass(8);
        Due.answer("certify(0)", s.certify(0), 92);
        Due.answer("certify(1) with a lamp", s.certify(1), 147);
        s.borrow(3, 2);
        Due.answer("certify(3) with a borrowed hat", s.certify(3), 80);
        Due.answer("certify(2) without the lent one", s.certify(2), 110);
        s.pass(4);
        Due.answer("certify(3) at noon", s.certify(3), 0);
    }

    private static void certifyInThePlaceOfAnother() {
        Due.sentence("7: Has the shadow of now certified, in the place of a certificate that there may be.");
        ShadowSociety s = Scenes.four();
        s.pass(8);
        s.certify(0);
        s.pass(1);
        s.certify(0);
        Due.answer("certified(0)", s.certified(0), 69);
        Due.answer("isHonest(0), by the later hour", s.isHonest(0), true);
        Due.answer("certificates()", s.certificates(), 1);
        s.buyLamp(0, 1);
        s.buyLamp(1, 1);
        s.certify(0);
        s.certify(1);
        s.dropLamp(1);
        s.certify(1);
        Due.answer("isHonest(0), false for honest", s.isHonest(0), false);
        Due.answer("isHonest(1), honest for false", s.isHonest(1), true);
        Due.answer("pass(3), the replaced ones do not count", s.pass(3), 1);
        Due.answer("purseOf(0)", s.purseOf(0), 50 - 1 - 2 - 10);
        Due.answer("purseOf(1)", s.purseOf(1), 50 - 1 + 3);
        s.certify(0);
        Due.answer("certified(0), in the place of a revoked one", s.certified(0), 0);
    }

    private static void passOfTheLeastAndTheMost() {
        Due.sentence("8: Lets hours go by.");
        ShadowSociety s = Scenes.four();
        s.certify(0);
        Due.answer("pass(1)", s.pass(1), 0);
        Due.answer("hour()", s.hour(), 1);
        Due.answer("pass(72)", s.pass(72), 0);
        Due.answer("hour()", s.hour(), 73);
        Due.answer("purseOf(0) behind three audits", s.purseOf(0), 59);
    }

    private static void passWithoutMembers() {
        Due.sentence("8: Returns how many certificates are revoked in them. .. society without members");
        ShadowSociety s = new ShadowSociety();
        Due.answer("pass(12)", s.pass(12), 0);
        Due.answer("pass(72)", s.pass(72), 0);
        Due.answer("hour()", s.hour(), 84);
        Due.answer("revoked()", s.revoked(), 0);
    }

    private static void passCountsRevocations() {
        Due.sentence("8: Returns how many certificates are revoked in them.");
        ShadowSociety s = Scenes.busy();
        Due.answer("pass(3), until 11", s.pass(3), 0);
        Due.answer("pass(1), until 12", s.pass(1), 2);
        Due.answer("pass(72), a certificate is revoked once", s.pass(72), 0);
        ShadowSociety all = Scenes.ten();
        for (int m = 0; m < 10; m++) {
            Scenes.certifyFalsely(all, m);
        }
        Due.answer("pass(12), all ten", all.pass(12), 10);
        ShadowSociety longRun = Scenes.busy();
        Due.answer("pass(72) with three audits in them", longRun.pass(72), 2);
    }

    private static void passCountsTheseHoursAlone() {
        Due.sentence("8: .. revoked in them.");
        ShadowSociety s = Scenes.busy();
        s.pass(24);
        Scenes.certifyFalsely(s, 3);
        Due.answer("pass(24)", s.pass(24), 1);
        Due.answer("revoked()", s.revoked(), 3);
        Due.answer("pass(24)", s.pass(24), 0);
    }
}
