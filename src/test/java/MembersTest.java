/** Promises 1 to 8: a new object, and the calls that change it. */
public final class MembersTest {
    public static void main(String[] args) {
        newObject();
        joinAnswersNumbers();
        joinRefuses();
        buyLampCosts();
        buyLampRefuses();
        dropLampAnswers();
        borrowMovesHats();
        borrowRefuses();
        giveBackToAnOwnerWithoutHat();
        giveBackToAnOwnerWithABorrowedHat();
        giveBackWithTheOwnHatLent();
        giveBackWithoutOwnHat();
        giveBackRefuses();
        certifyAnswersTheShadow();
        certifyRefusesTheExpelled();
        passMovesTheHour();
        passRefuses();
        auditSeizesLamps();
        auditSendsHatsBack();
        auditRewardsEachDay();
        passCountsRevocations();
        Due.end();
    }

    /** Members 0: 40 with a hat of 6, 1: 60 without, 2: 55 with a hat of 10, 3: 30 with a hat of 3. */
    private static ShadowSociety four() {
        ShadowSociety s = new ShadowSociety();
        s.join(40, 6);
        s.join(60, 0);
        s.join(55, 10);
        s.join(30, 3);
        return s;
    }

    private static void newObject() {
        ShadowSociety s = new ShadowSociety();
        Due.answer("1: members()", s.members(), 0);
        Due.answer("1: hour()", s.hour(), 0);
        Due.answer("1: hourOfDay()", s.hourOfDay(), 0);
        Due.answer("1: seized()", s.seized(), 0);
        Due.answer("1: revoked()", s.revoked(), 0);
        Due.answer("1: certificates()", s.certificates(), 0);
        Due.answer("1: honestOnes()", s.honestOnes(), 0);
        Due.refusal(s, "1: purseOf(0)", Due.OUT_OF_BOUNDS, () -> s.purseOf(0));
        ShadowSociety other = new ShadowSociety();
        s.join(10, 1);
        s.pass(5);
        Due.answer("1: members() of another one", other.members(), 0);
        Due.answer("1: hour() of another one", other.hour(), 0);
    }

    private static void joinAnswersNumbers() {
        ShadowSociety s = new ShadowSociety();
        Due.answer("2: join(1, 0)", s.join(1, 0), 0);
        Due.answer("2: join(99, 20)", s.join(99, 20), 1);
        Due.answer("2: join(50, 1)", s.join(50, 1), 2);
        for (int i = 3; i < 10; i++) {
            Due.answer("2: join(50, 5)", s.join(50, 5), i);
        }
        Due.answer("2: purseOf(0) at first", s.purseOf(0), 50);
        Due.answer("2: purseOf(9) at first", s.purseOf(9), 50);
        Due.answer("2: lampOf(9) at first", s.lampOf(9), 0);
        Due.answer("2: certified(9) at first", s.certified(9), -1);
        Due.answer("2: wears(0) at first", s.wears(0), -1);
        Due.answer("2: wears(1) at first", s.wears(1), 1);
        Due.refusal(s, "2: an eleventh join(50, 5)", Due.ILLEGAL_STATE, () -> s.join(50, 5));
        Due.refusal(s, "2: an eleventh join(0, 5)", Due.ILLEGAL_ARGUMENT, () -> s.join(0, 5));
        Due.refusal(s, "2: an eleventh join(50, 21)", Due.ILLEGAL_ARGUMENT, () -> s.join(50, 21));
        Due.answer("2: members()", s.members(), 10);
    }

    private static void joinRefuses() {
        ShadowSociety s = new ShadowSociety();
        int[] badHeights = {0, 100, -1, Integer.MIN_VALUE, Integer.MAX_VALUE};
        for (int bad : badHeights) {
            Due.refusal(s, "2: join(" + bad + ", 5)", Due.ILLEGAL_ARGUMENT, () -> s.join(bad, 5));
        }
        int[] badHats = {-1, 21, Integer.MIN_VALUE, Integer.MAX_VALUE};
        for (int bad : badHats) {
            Due.refusal(s, "2: join(50, " + bad + ")", Due.ILLEGAL_ARGUMENT, () -> s.join(50, bad));
        }
        Due.answer("2: members()", s.members(), 0);
    }

    private static void buyLampCosts() {
        ShadowSociety s = four();
        Due.answer("3: buyLamp(0, 9)", s.buyLamp(0, 9), 41);
        Due.answer("3: buyLamp(1, 1)", s.buyLamp(1, 1), 49);
        Due.answer("3: lampOf(0)", s.lampOf(0), 9);
        Due.answer("3: lampOf(1)", s.lampOf(1), 1);
        Due.answer("3: purseOf(0)", s.purseOf(0), 41);
        Due.answer("3: purseOf(2)", s.purseOf(2), 50);
    }

    private static void buyLampRefuses() {
        ShadowSociety s = four();
        for (int bad : new int[] {-1, 4, Integer.MIN_VALUE, Integer.MAX_VALUE}) {
            Due.refusal(s, "3: buyLamp(" + bad + ", 5)", Due.OUT_OF_BOUNDS, () -> s.buyLamp(bad, 5));
            Due.refusal(s, "3: buyLamp(" + bad + ", 0)", Due.OUT_OF_BOUNDS, () -> s.buyLamp(bad, 0));
        }
        for (int bad : new int[] {0, 10, -1, Integer.MIN_VALUE, Integer.MAX_VALUE}) {
            Due.refusal(s, "3: buyLamp(0, " + bad + ")", Due.ILLEGAL_ARGUMENT, () -> s.buyLamp(0, bad));
        }
        s.buyLamp(0, 5);
        Due.refusal(s, "3: a second buyLamp(0, 1)", Due.ILLEGAL_STATE, () -> s.buyLamp(0, 1));
        Due.refusal(s, "3: a second buyLamp(0, 10)", Due.ILLEGAL_ARGUMENT, () -> s.buyLamp(0, 10));
        s.dropLamp(0);
        for (int i = 0; i < 5; i++) {
            s.buyLamp(0, 8);
            s.dropLamp(0);
        }
        Due.answer("3: purseOf(0)", s.purseOf(0), 5);
        Due.refusal(s, "3: buyLamp(0, 6) with 5", Due.ILLEGAL_STATE, () -> s.buyLamp(0, 6));
        Due.answer("3: buyLamp(0, 5) with 5", s.buyLamp(0, 5), 0);
        s.dropLamp(0);
        Due.refusal(s, "3: buyLamp(0, 1) with 0", Due.ILLEGAL_STATE, () -> s.buyLamp(0, 1));
    }

    private static void dropLampAnswers() {
        ShadowSociety s = four();
        Due.refusal(s, "4: dropLamp(0) without one", Due.ILLEGAL_STATE, () -> s.dropLamp(0));
        for (int bad : new int[] {-1, 4, Integer.MIN_VALUE, Integer.MAX_VALUE}) {
            Due.refusal(s, "4: dropLamp(" + bad + ")", Due.OUT_OF_BOUNDS, () -> s.dropLamp(bad));
        }
        s.buyLamp(0, 7);
        s.buyLamp(1, 2);
        Due.answer("4: dropLamp(0)", s.dropLamp(0), 7);
        Due.answer("4: lampOf(0)", s.lampOf(0), 0);
        Due.answer("4: lampOf(1)", s.lampOf(1), 2);
        Due.answer("4: purseOf(0)", s.purseOf(0), 43);
        Due.answer("4: seized()", s.seized(), 0);
        Due.refusal(s, "4: a second dropLamp(0)", Due.ILLEGAL_STATE, () -> s.dropLamp(0));
    }

    private static void borrowMovesHats() {
        ShadowSociety s = four();
        Due.answer("5: borrow(1, 2)", s.borrow(1, 2), 10);
        Due.answer("5: wears(1)", s.wears(1), 2);
        Due.answer("5: wears(2)", s.wears(2), -1);
        Due.answer("5: hasLent(2)", s.hasLent(2), true);
        Due.answer("5: borrow(2, 0) by who lent the own hat", s.borrow(2, 0), 6);
        Due.answer("5: wears(2)", s.wears(2), 0);
        Due.answer("5: wears(0)", s.wears(0), -1);
        Due.answer("5: borrow(0, 3)", s.borrow(0, 3), 3);
        Due.answer("5: wears(0)", s.wears(0), 3);
        ShadowSociety home = four();
        Due.answer("5: borrow(0, 2) with an own hat", home.borrow(0, 2), 10);
        Due.answer("5: hasLent(0) with the own hat at home", home.hasLent(0), false);
        Due.answer("5: wears(0)", home.wears(0), 2);
    }

    private static void borrowRefuses() {
        ShadowSociety s = four();
        for (int bad : new int[] {-1, 4, Integer.MIN_VALUE, Integer.MAX_VALUE}) {
            Due.refusal(s, "5: borrow(" + bad + ", 0)", Due.OUT_OF_BOUNDS, () -> s.borrow(bad, 0));
            Due.refusal(s, "5: borrow(0, " + bad + ")", Due.OUT_OF_BOUNDS, () -> s.borrow(0, bad));
            Due.refusal(s, "5: borrow twice " + bad, Due.OUT_OF_BOUNDS, () -> s.borrow(bad, bad));
        }
        Due.refusal(s, "5: borrow(0, 0)", Due.ILLEGAL_ARGUMENT, () -> s.borrow(0, 0));
        Due.refusal(s, "5: borrow(1, 1) without a hat", Due.ILLEGAL_ARGUMENT, () -> s.borrow(1, 1));
        Due.refusal(s, "5: borrow(0, 1) of an owner without a hat", Due.ILLEGAL_STATE, () -> s.borrow(0, 1));
        s.borrow(0, 2);
        Due.refusal(s, "5: borrow(1, 2) of a lent hat", Due.ILLEGAL_STATE, () -> s.borrow(1, 2));
        Due.refusal(s, "5: borrow(1, 0) of a hat at home", Due.ILLEGAL_STATE, () -> s.borrow(1, 0));
        Due.refusal(s, "5: borrow(2, 0) of the borrower's hat", Due.ILLEGAL_STATE, () -> s.borrow(2, 0));
        Due.refusal(s, "5: borrow(0, 3) with a borrowed hat on", Due.ILLEGAL_STATE, () -> s.borrow(0, 3));
        Due.refusal(s, "5: borrow(0, 2) of the hat that is borrowed", Due.ILLEGAL_STATE, () -> s.borrow(0, 2));
        Due.refusal(s, "5: borrow(0, 0) with a borrowed hat on", Due.ILLEGAL_ARGUMENT, () -> s.borrow(0, 0));
    }

    private static void giveBackToAnOwnerWithoutHat() {
        ShadowSociety s = four();
        s.borrow(0, 2);
        Due.answer("6: giveBack(0)", s.giveBack(0), 2);
        Due.answer("6: wears(0), the own one from home", s.wears(0), 0);
        Due.answer("6: wears(2), the one that came back", s.wears(2), 2);
        Due.answer("6: hasLent(2)", s.hasLent(2), false);
        Due.answer("6: borrow(1, 2) again", s.borrow(1, 2), 10);
    }

    private static void giveBackToAnOwnerWithABorrowedHat() {
        ShadowSociety s = four();
        s.borrow(0, 2);
        s.borrow(2, 3);
        Due.answer("6: giveBack(0)", s.giveBack(0), 2);
        Due.answer("6: wears(2), still the borrowed one", s.wears(2), 3);
        Due.answer("6: hasLent(2) with the hat at home", s.hasLent(2), false);
        Due.refusal(s, "6: borrow(1, 2) of the hat at home", Due.ILLEGAL_STATE, () -> s.borrow(1, 2));
        Due.answer("6: giveBack(2)", s.giveBack(2), 3);
        Due.answer("6: wears(2)", s.wears(2), 2);
        Due.answer("6: wears(3)", s.wears(3), 3);
    }

    private static void giveBackWithTheOwnHatLent() {
        ShadowSociety s = four();
        s.borrow(0, 2);
        s.borrow(2, 3);
        Due.answer("6: giveBack(2) with the own hat lent", s.giveBack(2), 3);
        Due.answer("6: wears(2), none", s.wears(2), -1);
        Due.answer("6: hasLent(2)", s.hasLent(2), true);
        Due.answer("6: wears(3)", s.wears(3), 3);
        Due.answer("6: giveBack(0)", s.giveBack(0), 2);
        Due.answer("6: wears(2)", s.wears(2), 2);
    }

    private static void giveBackWithoutOwnHat() {
        ShadowSociety s = four();
        s.borrow(1, 0);
        Due.answer("6: giveBack(1)", s.giveBack(1), 0);
        Due.answer("6: wears(1), none", s.wears(1), -1);
        Due.answer("6: wears(0)", s.wears(0), 0);
    }

    private static void giveBackRefuses() {
        ShadowSociety s = four();
        for (int bad : new int[] {-1, 4, Integer.MIN_VALUE, Integer.MAX_VALUE}) {
            Due.refusal(s, "6: giveBack(" + bad + ")", Due.OUT_OF_BOUNDS, () -> s.giveBack(bad));
        }
        Due.refusal(s, "6: giveBack(0) with the own hat on", Due.ILLEGAL_STATE, () -> s.giveBack(0));
        Due.refusal(s, "6: giveBack(1) without a hat", Due.ILLEGAL_STATE, () -> s.giveBack(1));
        s.borrow(1, 0);
        Due.refusal(s, "6: giveBack(0) with the own hat lent", Due.ILLEGAL_STATE, () -> s.giveBack(0));
        s.giveBack(1);
        Due.refusal(s, "6: a second giveBack(1)", Due.ILLEGAL_STATE, () -> s.giveBack(1));
    }

    private static void certifyAnswersTheShadow() {
        ShadowSociety s = four();
        s.pass(8);
        Due.answer("7: certify(0)", s.certify(0), 92);
        Due.answer("7: certified(0)", s.certified(0), 92);
        s.pass(1);
        Due.answer("7: certified(0), the shadow as it was", s.certified(0), 92);
        Due.answer("7: isHonest(0), at the hour as it was", s.isHonest(0), true);
        s.buyLamp(0, 1);
        Due.answer("7: isHonest(0) with a lamp bought later", s.isHonest(0), true);
        Due.answer("7: certify(0) in the place of another", s.certify(0), 72);
        Due.answer("7: certified(0)", s.certified(0), 72);
        Due.answer("7: isHonest(0)", s.isHonest(0), false);
        Due.answer("7: certificates()", s.certificates(), 1);
        for (int bad : new int[] {-1, 4, Integer.MIN_VALUE, Integer.MAX_VALUE}) {
            Due.refusal(s, "7: certify(" + bad + ")", Due.OUT_OF_BOUNDS, () -> s.certify(bad));
        }
    }

    private static void certifyRefusesTheExpelled() {
        ShadowSociety s = four();
        for (int i = 0; i < 3; i++) {
            Due.answer("7: isExpelled(0) behind " + i, s.isExpelled(0), false);
            s.buyLamp(0, 1);
            s.certify(0);
            Due.answer("7: pass(24)", s.pass(24), 1);
        }
        Due.answer("7: isExpelled(0)", s.isExpelled(0), true);
        Due.refusal(s, "7: certify(0) of who is expelled", Due.ILLEGAL_STATE, () -> s.certify(0));
        Due.answer("7: certify(1) of another one", s.certify(1), 0);
        Due.answer("7: buyLamp(0, 1) of who is expelled", s.buyLamp(0, 1), 50 - 3 * 13 - 1);
        Due.answer("7: borrow(0, 2) of who is expelled", s.borrow(0, 2), 10);
    }

    private static void passMovesTheHour() {
        ShadowSociety s = new ShadowSociety();
        Due.answer("8: pass(1)", s.pass(1), 0);
        Due.answer("8: hour()", s.hour(), 1);
        Due.answer("8: pass(72)", s.pass(72), 0);
        Due.answer("8: hour()", s.hour(), 73);
        Due.answer("8: hourOfDay()", s.hourOfDay(), 1);
    }

    private static void passRefuses() {
        ShadowSociety s = four();
        for (int bad : new int[] {0, 73, -1, Integer.MIN_VALUE, Integer.MAX_VALUE}) {
            Due.refusal(s, "8: pass(" + bad + ")", Due.ILLEGAL_ARGUMENT, () -> s.pass(bad));
        }
        Due.answer("8: hour()", s.hour(), 0);
    }

    private static void auditSeizesLamps() {
        ShadowSociety s = four();
        s.buyLamp(0, 9);
        s.buyLamp(1, 1);
        s.pass(11);
        Due.answer("8: lampOf(0) at 11", s.lampOf(0), 9);
        s.pass(1);
        Due.answer("8: lampOf(0) at 12", s.lampOf(0), 0);
        Due.answer("8: purseOf(0) at 12", s.purseOf(0), 50 - 9 - 18);
        Due.answer("8: purseOf(1) at 12", s.purseOf(1), 50 - 1 - 2);
        Due.answer("8: purseOf(2) at 12", s.purseOf(2), 50);
        Due.answer("8: seized() at 12", s.seized(), 2);
        s.buyLamp(0, 4);
        s.pass(23);
        Due.answer("8: lampOf(0) at 11 of the next day", s.lampOf(0), 4);
        s.pass(1);
        Due.answer("8: purseOf(0), less than 0 is allowed", s.purseOf(0), 23 - 4 - 8);
        s.buyLamp(0, 9);
        s.pass(72);
        Due.answer("8: purseOf(0) less than 0", s.purseOf(0), 11 - 9 - 18);
        Due.answer("8: seized()", s.seized(), 4);
    }

    private static void auditSendsHatsBack() {
        ShadowSociety s = four();
        s.borrow(0, 2);
        s.borrow(2, 3);
        s.pass(11);
        Due.answer("8: wears(0) at 11", s.wears(0), 2);
        s.pass(1);
        Due.answer("8: wears(0) at 12", s.wears(0), 0);
        Due.answer("8: wears(2) at 12", s.wears(2), 2);
        Due.answer("8: wears(3) at 12", s.wears(3), 3);
        s.borrow(1, 0);
        s.pass(24);
        Due.answer("8: wears(1) at 12, none", s.wears(1), -1);
        Due.answer("8: wears(0) at 12", s.wears(0), 0);
    }

    private static void auditRewardsEachDay() {
        ShadowSociety s = four();
        s.pass(8);
        s.certify(0);
        Due.answer("8: pass(4)", s.pass(4), 0);
        Due.answer("8: purseOf(0) behind one audit", s.purseOf(0), 53);
        Due.answer("8: certified(0) stays", s.certified(0), 92);
        Due.answer("8: pass(72)", s.pass(72), 0);
        Due.answer("8: purseOf(0) behind four audits", s.purseOf(0), 62);
    }

    private static void passCountsRevocations() {
        ShadowSociety s = four();
        s.pass(8);
        s.borrow(0, 2);
        s.certify(0);
        s.certify(1);
        s.certify(2);
        Due.answer("8: pass(3)", s.pass(3), 0);
        Due.answer("8: pass(1)", s.pass(1), 2);
        Due.answer("8: certified(0)", s.certified(0), -1);
        Due.answer("8: certified(1)", s.certified(1), 120);
        Due.answer("8: certified(2)", s.certified(2), -1);
        Due.answer("8: purseOf(0)", s.purseOf(0), 40);
        Due.answer("8: purseOf(1)", s.purseOf(1), 53);
        Due.answer("8: purseOf(2)", s.purseOf(2), 40);
        Due.answer("8: pass(72)", s.pass(72), 0);
        Due.answer("8: revoked()", s.revoked(), 2);
        s.buyLamp(3, 1);
        s.certify(3);
        Due.answer("8: pass(72), of these hours alone", s.pass(72), 1);
        Due.answer("8: revoked()", s.revoked(), 3);
    }
}
