/**
 * Every sentence that says what a call throws, and the two that hold for all of them: a refused call changes nothing,
 * and of several exceptions the one that is named first is thrown.
 */
public final class RefusalsTest {
    private static final int[] FAR = {-1, -2, Integer.MIN_VALUE, Integer.MAX_VALUE};
    private static final String NO_SUCH_MEMBER = ": Throws IndexOutOfBoundsException if there is no such member";
    private static final String FIRST_NAMED =
        ": If several exceptions apply, the one that is named first is thrown.";

    private interface CallOfMember {
        void make(ShadowSociety society, int member);
    }

    public static void main(String[] args) {
        noSuchMemberInChanges();
        noSuchMemberInQuestions();
        joinOfAWrongHeight();
        joinOfAWrongHat();
        joinOfAnEleventh();
        joinFirstNamed();
        buyLampOfAWrongBrightness();
        buyLampWithALamp();
        buyLampWithLessInThePurse();
        buyLampFirstNamed();
        dropLampOfNone();
        borrowOfNoSuchOwner();
        borrowOfTheSame();
        borrowOfAnOwnerWithoutHat();
        borrowOfAHatThatTheOwnerDoesNotWear();
        borrowWithABorrowedHatOn();
        borrowFirstNamed();
        giveBackOfNoBorrowedHat();
        certifyOfTheExpelled();
        passOfWrongHours();
        honestShadowAtNoHour();
        isHonestWithoutCertificate();
        Due.end();
    }

    private static void noSuchMemberInChanges() {
        noSuchMember("3", "buyLamp", (s, m) -> s.buyLamp(m, 5));
        noSuchMember("4", "dropLamp", (s, m) -> s.dropLamp(m));
        noSuchMember("5", "borrow of 0 by", (s, m) -> s.borrow(m, 0));
        noSuchMember("5", "borrow by 0 of", (s, m) -> s.borrow(0, m));
        noSuchMember("6", "giveBack", (s, m) -> s.giveBack(m));
        noSuchMember("7", "certify", (s, m) -> s.certify(m));
    }

    private static void noSuchMemberInQuestions() {
        noSuchMember("16", "lampOf", (s, m) -> s.lampOf(m));
        noSuchMember("17", "purseOf", (s, m) -> s.purseOf(m));
        noSuchMember("18", "wears", (s, m) -> s.wears(m));
        noSuchMember("19", "hatOn", (s, m) -> s.hatOn(m));
        noSuchMember("20", "hasLent", (s, m) -> s.hasLent(m));
        noSuchMember("21", "isExpelled", (s, m) -> s.isExpelled(m));
        noSuchMember("22", "shadowOf", (s, m) -> s.shadowOf(m));
        noSuchMember("23", "honestShadow at 8 of", (s, m) -> s.honestShadow(m, 8));
        noSuchMember("24", "certified", (s, m) -> s.certified(m));
        noSuchMember("25", "isHonest", (s, m) -> s.isHonest(m));
        noSuchMember("28", "auditBrings", (s, m) -> s.auditBrings(m));
        noSuchMember("30", "bestHat", (s, m) -> s.bestHat(m));
        noSuchMember("31", "longestIn", (s, m) -> s.longestIn(m));
    }

    /** The numbers below the first member and behind the last one, of none, of four and of as many as there can be. */
    private static void noSuchMember(String promise, String call, CallOfMember made) {
        Due.sentence(promise + NO_SUCH_MEMBER);
        for (int bad : FAR) {
            Due.refusal(Scenes::busy, call + " " + bad, Due.OUT_OF_BOUNDS, s -> made.make(s, bad));
        }
        Due.refusal(Scenes::empty, call + " 0 of none", Due.OUT_OF_BOUNDS, s -> made.make(s, 0));
        Due.refusal(Scenes::empty, call + " -1 of none", Due.OUT_OF_BOUNDS, s -> made.make(s, -1));
        Due.refusal(Scenes::busy, call + " 4 of four", Due.OUT_OF_BOUNDS, s -> made.make(s, 4));
        Due.refusal(Scenes::ten, call + " 10 of ten", Due.OUT_OF_BOUNDS, s -> made.make(s, 10));
        isSuchAMember(Scenes.four(), call, made, 0);
        isSuchAMember(Scenes.four(), call, made, 3);
        isSuchAMember(Scenes.ten(), call, made, 9);
    }

    private static void isSuchAMember(ShadowSociety s, String call, CallOfMember made, int member) {
        String thrown = Due.thrownBy(() -> made.make(s, member));
        Due.answer(call + " " + member + " is out of bounds", thrown.equals(Due.OUT_OF_BOUNDS), false);
    }

    private static void joinOfAWrongHeight() {
        Due.sentence("2: Throws IllegalArgumentException if height is not 1 to 99");
        for (int bad : new int[] {0, 100, -1, -99, Integer.MIN_VALUE, Integer.MAX_VALUE}) {
            Due.refusal(Scenes::busy, "join(" + bad + ", 5)", Due.ILLEGAL_ARGUMENT, s -> s.join(bad, 5));
            Due.refusal(Scenes::empty, "join(" + bad + ", 0)", Due.ILLEGAL_ARGUMENT, s -> s.join(bad, 0));
        }
        for (int good : new int[] {1, 2, 98, 99}) {
            Due.answer("join(" + good + ", 5)", Scenes.four().join(good, 5), 4);
        }
    }

    private static void joinOfAWrongHat() {
        Due.sentence("2: Throws IllegalArgumentException if .. hat is not 0 to 20");
        for (int bad : new int[] {-1, 21, -20, Integer.MIN_VALUE, Integer.MAX_VALUE}) {
            Due.refusal(Scenes::busy, "join(50, " + bad + ")", Due.ILLEGAL_ARGUMENT, s -> s.join(50, bad));
            Due.refusal(Scenes::empty, "join(50, " + bad + ")", Due.ILLEGAL_ARGUMENT, s -> s.join(50, bad));
        }
        for (int good : new int[] {0, 1, 19, 20}) {
            Due.answer("join(50, " + good + ")", Scenes.four().join(50, good), 4);
        }
    }

    private static void joinOfAnEleventh() {
        Due.sentence("2: Throws IllegalStateException if there are 10");
        ShadowSociety s = new ShadowSociety();
        for (int i = 0; i < 10; i++) {
            Due.answer("join(50, 5) beside " + i, s.join(50, 5), i);
        }
        Due.refusal(Scenes::ten, "join(50, 5)", Due.ILLEGAL_STATE, full -> full.join(50, 5));
        Due.refusal(Scenes::ten, "join(1, 0)", Due.ILLEGAL_STATE, full -> full.join(1, 0));
        Due.refusal(Scenes::ten, "join(99, 20)", Due.ILLEGAL_STATE, full -> full.join(99, 20));
    }

    private static void joinFirstNamed() {
        Due.sentence("2" + FIRST_NAMED);
        Due.refusal(Scenes::ten, "join(0, 5) beside 10", Due.ILLEGAL_ARGUMENT, s -> s.join(0, 5));
        Due.refusal(Scenes::ten, "join(100, 5) beside 10", Due.ILLEGAL_ARGUMENT, s -> s.join(100, 5));
        Due.refusal(Scenes::ten, "join(50, -1) beside 10", Due.ILLEGAL_ARGUMENT, s -> s.join(50, -1));
        Due.refusal(Scenes::ten, "join(50, 21) beside 10", Due.ILLEGAL_ARGUMENT, s -> s.join(50, 21));
    }

    private static void buyLampOfAWrongBrightness() {
        Due.sentence("3: Throws IllegalArgumentException if brightness is not 1 to 9");
        for (int bad : new int[] {0, 10, -1, -9, Integer.MIN_VALUE, Integer.MAX_VALUE}) {
            Due.refusal(Scenes::busy, "buyLamp(1, " + bad + ")", Due.ILLEGAL_ARGUMENT, s -> s.buyLamp(1, bad));
        }
        for (int good : new int[] {1, 2, 8, 9}) {
            Due.answer("buyLamp(1, " + good + ")", Scenes.busy().buyLamp(1, good), 50 - good);
        }
    }

    private static void buyLampWithALamp() {
        Due.sentence("3: Throws IllegalStateException if this one has a lamp");
        for (int brightness : new int[] {1, 5, 9}) {
            String call = "buyLamp(0, " + brightness + ")";
            Due.refusal(Scenes::busy, call, Due.ILLEGAL_STATE, s -> s.buyLamp(0, brightness));
        }
        Due.refusal(() -> withALamp(1), "buyLamp(1, 1) with the least", Due.ILLEGAL_STATE, s -> s.buyLamp(1, 1));
        Due.refusal(() -> withALamp(9), "buyLamp(1, 9) with the most", Due.ILLEGAL_STATE, s -> s.buyLamp(1, 9));
        Due.answer("buyLamp(0, 9) with the lamp thrown away", lampDropped().buyLamp(0, 9), 36);
        Due.answer("buyLamp(0, 9) with the lamp seized", behindTheAudit().buyLamp(0, 9), 26);
    }

    private static ShadowSociety withALamp(int brightness) {
        ShadowSociety s = Scenes.busy();
        s.buyLamp(1, brightness);
        return s;
    }

    private static void buyLampWithLessInThePurse() {
        Due.sentence("3: Throws IllegalStateException if .. the purse has less");
        Due.refusal(() -> withInThePurse(8), "buyLamp(0, 9) with 8", Due.ILLEGAL_STATE, s -> s.buyLamp(0, 9));
        Due.answer("buyLamp(0, 8) with 8", withInThePurse(8).buyLamp(0, 8), 0);
        Due.refusal(() -> withInThePurse(0), "buyLamp(0, 1) with 0", Due.ILLEGAL_STATE, s -> s.buyLamp(0, 1));
        Due.answer("buyLamp(0, 1) with 1", withInThePurse(1).buyLamp(0, 1), 0);
        Due.answer("buyLamp(0, 9) with 9", withInThePurse(9).buyLamp(0, 9), 0);
        Due.answer("purseOf(0) in debt", inDebt().purseOf(0), -18);
        Due.refusal(RefusalsTest::inDebt, "buyLamp(0, 1) with -18", Due.ILLEGAL_STATE, s -> s.buyLamp(0, 1));
        Due.refusal(RefusalsTest::inDebt, "buyLamp(0, 9) with -18", Due.ILLEGAL_STATE, s -> s.buyLamp(0, 9));
    }

    private static ShadowSociety withInThePurse(int left) {
        ShadowSociety s = Scenes.four();
        Scenes.spendDownTo(s, 0, left);
        return s;
    }

    private static ShadowSociety inDebt() {
        ShadowSociety s = withInThePurse(9);
        s.buyLamp(0, 9);
        s.pass(12);
        return s;
    }

    private static void buyLampFirstNamed() {
        Due.sentence("3" + FIRST_NAMED);
        for (int brightness : new int[] {0, 10}) {
            String wrong = ", " + brightness + ")";
            Due.refusal(Scenes::busy, "buyLamp(4" + wrong, Due.OUT_OF_BOUNDS, s -> s.buyLamp(4, brightness));
            Due.refusal(Scenes::busy, "buyLamp(-1" + wrong, Due.OUT_OF_BOUNDS, s -> s.buyLamp(-1, brightness));
            Due.refusal(Scenes::busy, "buyLamp(0" + wrong + " with a lamp", Due.ILLEGAL_ARGUMENT,
                s -> s.buyLamp(0, brightness));
            Due.refusal(RefusalsTest::inDebt, "buyLamp(0" + wrong + " with -18", Due.ILLEGAL_ARGUMENT,
                s -> s.buyLamp(0, brightness));
        }
        Due.refusal(() -> withInThePurse(5), "buyLamp(0, 10) with 5", Due.ILLEGAL_ARGUMENT, s -> s.buyLamp(0, 10));
    }

    private static void dropLampOfNone() {
        Due.sentence("4: Throws IllegalStateException if there is none");
        Due.refusal(Scenes::busy, "dropLamp(1)", Due.ILLEGAL_STATE, s -> s.dropLamp(1));
        Due.refusal(RefusalsTest::lampDropped, "dropLamp(0) twice", Due.ILLEGAL_STATE, s -> s.dropLamp(0));
        Due.refusal(RefusalsTest::behindTheAudit, "dropLamp(0) of a seized one", Due.ILLEGAL_STATE, s -> s.dropLamp(0));
        ShadowSociety least = Scenes.four();
        least.buyLamp(0, 1);
        Due.answer("dropLamp(0) of the least", least.dropLamp(0), 1);
    }

    private static ShadowSociety lampDropped() {
        ShadowSociety s = Scenes.busy();
        s.dropLamp(0);
        return s;
    }

    private static ShadowSociety behindTheAudit() {
        ShadowSociety s = Scenes.busy();
        s.pass(4);
        return s;
    }

    private static void borrowOfNoSuchOwner() {
        Due.sentence("5" + NO_SUCH_MEMBER);
        Due.refusal(Scenes::busy, "borrow(4, 5)", Due.OUT_OF_BOUNDS, s -> s.borrow(4, 5));
        Due.refusal(Scenes::busy, "borrow(-1, 4)", Due.OUT_OF_BOUNDS, s -> s.borrow(-1, 4));
        Due.answer("borrow(3, 0)", Scenes.four().borrow(3, 0), 6);
        Due.answer("borrow(0, 3)", Scenes.four().borrow(0, 3), 3);
    }

    private static void borrowOfTheSame() {
        Due.sentence("5: Throws IllegalArgumentException if both are the same");
        for (int m = 0; m < 4; m++) {
            int same = m;
            String call = "borrow(" + same + ", " + same + ")";
            Due.refusal(Scenes::four, call, Due.ILLEGAL_ARGUMENT, s -> s.borrow(same, same));
        }
    }

    private static void borrowOfAnOwnerWithoutHat() {
        Due.sentence("5: Throws IllegalStateException if the owner has no hat");
        Due.refusal(Scenes::four, "borrow(0, 1)", Due.ILLEGAL_STATE, s -> s.borrow(0, 1));
        Due.refusal(Scenes::busy, "borrow(0, 1) with a borrowed one on", Due.ILLEGAL_STATE, s -> s.borrow(0, 1));
        ShadowSociety least = new ShadowSociety();
        least.join(40, 0);
        least.join(40, 1);
        Due.answer("borrow(0, 1) of the least hat", least.borrow(0, 1), 1);
    }

    private static void borrowOfAHatThatTheOwnerDoesNotWear() {
        Due.sentence("5: Throws IllegalStateException if the owner .. does not wear the own one");
        Due.refusal(Scenes::busy, "borrow(0, 2) of a lent hat", Due.ILLEGAL_STATE, s -> s.borrow(0, 2));
        Due.refusal(RefusalsTest::hatAtHome, "borrow(1, 0) of a hat at home", Due.ILLEGAL_STATE, s -> s.borrow(1, 0));
        Due.refusal(RefusalsTest::hatAtHome, "borrow(2, 0) by the lender", Due.ILLEGAL_STATE, s -> s.borrow(2, 0));
        Due.refusal(RefusalsTest::lentAndBorrowing, "borrow(1, 2)", Due.ILLEGAL_STATE, s -> s.borrow(1, 2));
        ShadowSociety again = hatAtHome();
        again.giveBack(0);
        Due.answer("borrow(1, 0) of the hat that is worn again", again.borrow(1, 0), 6);
    }

    /** 0 wears the hat of 2; that of 0 is at home. */
    private static ShadowSociety hatAtHome() {
        ShadowSociety s = Scenes.four();
        s.borrow(0, 2);
        return s;
    }

    /** 0 wears the hat of 2, and 2 that of 3. */
    private static ShadowSociety lentAndBorrowing() {
        ShadowSociety s = hatAtHome();
        s.borrow(2, 3);
        return s;
    }

    private static void borrowWithABorrowedHatOn() {
        Due.sentence("5: Throws IllegalStateException if .. the member wears a borrowed one");
        Due.refusal(RefusalsTest::hatAtHome, "borrow(0, 3)", Due.ILLEGAL_STATE, s -> s.borrow(0, 3));
        Due.refusal(RefusalsTest::hatAtHome, "borrow(0, 2) once more", Due.ILLEGAL_STATE, s -> s.borrow(0, 2));
        Due.refusal(Scenes::busy, "borrow(1, 0) without an own hat", Due.ILLEGAL_STATE, s -> s.borrow(1, 0));
        Due.refusal(RefusalsTest::lentAndBorrowing, "borrow(2, 0)", Due.ILLEGAL_STATE, s -> s.borrow(2, 0));
        Due.answer("borrow(2, 3) by who wears none, the own one being lent", hatAtHome().borrow(2, 3), 3);
    }

    private static void borrowFirstNamed() {
        Due.sentence("5" + FIRST_NAMED);
        for (int bad : new int[] {-1, 4, 10, Integer.MIN_VALUE, Integer.MAX_VALUE}) {
            String twice = "borrow(" + bad + ", " + bad + ")";
            Due.refusal(Scenes::four, twice, Due.OUT_OF_BOUNDS, s -> s.borrow(bad, bad));
            Due.refusal(Scenes::busy, "borrow(1, " + bad + ") with a borrowed hat on", Due.OUT_OF_BOUNDS,
                s -> s.borrow(1, bad));
            Due.refusal(Scenes::busy, "borrow(" + bad + ", 1) of who has no hat", Due.OUT_OF_BOUNDS,
                s -> s.borrow(bad, 1));
            Due.refusal(Scenes::busy, "borrow(" + bad + ", 2) of a lent hat", Due.OUT_OF_BOUNDS,
                s -> s.borrow(bad, 2));
        }
        Due.refusal(Scenes::busy, "borrow(1, 1), no hat and a borrowed one on", Due.ILLEGAL_ARGUMENT,
            s -> s.borrow(1, 1));
        Due.refusal(Scenes::busy, "borrow(2, 2), the own hat lent", Due.ILLEGAL_ARGUMENT, s -> s.borrow(2, 2));
        Due.refusal(RefusalsTest::hatAtHome, "borrow(0, 0), the own hat at home", Due.ILLEGAL_ARGUMENT,
            s -> s.borrow(0, 0));
    }

    private static void giveBackOfNoBorrowedHat() {
        Due.sentence("6: Throws IllegalStateException if this one wears no borrowed hat");
        Due.refusal(Scenes::four, "giveBack(0) with the own hat on", Due.ILLEGAL_STATE, s -> s.giveBack(0));
        Due.refusal(Scenes::four, "giveBack(1) of who has no hat", Due.ILLEGAL_STATE, s -> s.giveBack(1));
        Due.refusal(Scenes::busy, "giveBack(2) with the own hat lent", Due.ILLEGAL_STATE, s -> s.giveBack(2));
        Due.refusal(RefusalsTest::givenBack, "giveBack(1) twice", Due.ILLEGAL_STATE, s -> s.giveBack(1));
        Due.refusal(RefusalsTest::behindTheAudit, "giveBack(1) behind the audit", Due.ILLEGAL_STATE,
            s -> s.giveBack(1));
        Due.answer("giveBack(1)", Scenes.busy().giveBack(1), 2);
    }

    private static ShadowSociety givenBack() {
        ShadowSociety s = Scenes.busy();
        s.giveBack(1);
        return s;
    }

    private static void certifyOfTheExpelled() {
        Due.sentence("7: Throws IllegalStateException if this one is expelled");
        Due.refusal(Scenes::expelled, "certify(0)", Due.ILLEGAL_STATE, s -> s.certify(0));
        Due.answer("certify(1) of another one", Scenes.expelled().certify(1), 0);
        ShadowSociety later = Scenes.expelled();
        later.pass(72);
        Due.answer("certify(0) later", Due.thrownBy(() -> later.certify(0)), Due.ILLEGAL_STATE);
        ShadowSociety twice = Scenes.four();
        for (int day = 0; day < 2; day++) {
            Scenes.certifyFalsely(twice, 0);
            twice.pass(24);
        }
        Due.answer("certify(0) with two revoked", twice.certify(0), 0);
    }

    private static void passOfWrongHours() {
        Due.sentence("8: Throws IllegalArgumentException if hours is not 1 to 72");
        for (int bad : new int[] {0, 73, -1, -72, 96, Integer.MIN_VALUE, Integer.MAX_VALUE}) {
            Due.refusal(Scenes::busy, "pass(" + bad + ")", Due.ILLEGAL_ARGUMENT, s -> s.pass(bad));
            Due.refusal(Scenes::empty, "pass(" + bad + ")", Due.ILLEGAL_ARGUMENT, s -> s.pass(bad));
        }
        for (int good : new int[] {1, 2, 71, 72}) {
            ShadowSociety s = new ShadowSociety();
            Due.answer("pass(" + good + ")", s.pass(good), 0);
            Due.answer("hour() behind pass(" + good + ")", s.hour(), good);
        }
    }

    private static void honestShadowAtNoHour() {
        Due.sentence("23: Throws IndexOutOfBoundsException if .. hour is not 0 to 23");
        for (int bad : new int[] {-1, 24, -12, 32, Integer.MIN_VALUE, Integer.MAX_VALUE}) {
            String call = "honestShadow(0, " + bad + ")";
            Due.refusal(Scenes::busy, call, Due.OUT_OF_BOUNDS, s -> s.honestShadow(0, bad));
            Due.refusal(Scenes::busy, call + " of no such member", Due.OUT_OF_BOUNDS, s -> s.honestShadow(4, bad));
        }
        for (int good : new int[] {0, 1, 22, 23}) {
            Due.answer("honestShadow(0, " + good + ")", Scenes.busy().honestShadow(0, good), 0);
        }
    }

    private static void isHonestWithoutCertificate() {
        Due.sentence("25: Throws IllegalStateException if there is none");
        Due.refusal(Scenes::busy, "isHonest(0), never certified", Due.ILLEGAL_STATE, s -> s.isHonest(0));
        Due.refusal(RefusalsTest::behindTheAudit, "isHonest(1), revoked", Due.ILLEGAL_STATE, s -> s.isHonest(1));
        Due.refusal(Scenes::expelled, "isHonest(0), expelled", Due.ILLEGAL_STATE, s -> s.isHonest(0));
        Due.answer("isHonest(1), not honest", Scenes.busy().isHonest(1), false);
        Due.answer("isHonest(3), honest", Scenes.busy().isHonest(3), true);
        ShadowSociety dark = Scenes.four();
        dark.certify(0);
        Due.answer("isHonest(0), certified with a length of 0", dark.isHonest(0), true);
    }
}
