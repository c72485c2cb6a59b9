/** Promises 9 to 21: what there is. */
public final class StateTest {
    public static void main(String[] args) {
        membersAreCounted();
        hoursAreTold();
        seizedAndRevokedAreCounted();
        certificatesAreCounted();
        lampAndPurse();
        hats();
        expelledBehindThree();
        noSuchMember();
        Due.end();
    }

    private static void membersAreCounted() {
        ShadowSociety s = new ShadowSociety();
        for (int i = 0; i < 10; i++) {
            Due.answer("9: members()", s.members(), i);
            s.join(20 + i, i);
        }
        Due.answer("9: members()", s.members(), 10);
    }

    private static void hoursAreTold() {
        ShadowSociety s = new ShadowSociety();
        for (int i = 0; i < 100; i++) {
            Due.answer("10: hour()", s.hour(), i);
            Due.answer("11: hourOfDay()", s.hourOfDay(), i % 24);
            s.pass(1);
        }
        s.pass(68);
        Due.answer("10: hour()", s.hour(), 168);
        Due.answer("11: hourOfDay()", s.hourOfDay(), 0);
    }

    private static void seizedAndRevokedAreCounted() {
        ShadowSociety s = new ShadowSociety();
        s.join(40, 6);
        s.join(60, 0);
        s.join(55, 10);
        s.buyLamp(0, 2);
        s.buyLamp(1, 3);
        s.certify(0);
        s.certify(2);
        s.dropLamp(1);
        Due.answer("12: seized() ahead of the audit", s.seized(), 0);
        Due.answer("13: revoked() ahead of the audit", s.revoked(), 0);
        s.pass(12);
        Due.answer("12: seized()", s.seized(), 1);
        Due.answer("13: revoked()", s.revoked(), 1);
        s.buyLamp(0, 2);
        s.buyLamp(1, 2);
        s.certify(0);
        s.certify(1);
        s.pass(24);
        Due.answer("12: seized() in all", s.seized(), 3);
        Due.answer("13: revoked() in all", s.revoked(), 3);
    }

    private static void certificatesAreCounted() {
        ShadowSociety s = new ShadowSociety();
        s.join(40, 6);
        s.join(60, 0);
        s.join(55, 10);
        s.buyLamp(1, 1);
        s.certify(0);
        Due.answer("14: certificates()", s.certificates(), 1);
        Due.answer("15: honestOnes()", s.honestOnes(), 1);
        s.certify(1);
        Due.answer("14: certificates()", s.certificates(), 2);
        Due.answer("15: honestOnes()", s.honestOnes(), 1);
        s.certify(2);
        s.certify(2);
        Due.answer("14: certificates()", s.certificates(), 3);
        Due.answer("15: honestOnes()", s.honestOnes(), 2);
        s.pass(12);
        Due.answer("14: certificates() behind the audit", s.certificates(), 2);
        Due.answer("15: honestOnes() behind the audit", s.honestOnes(), 2);
    }

    private static void lampAndPurse() {
        ShadowSociety s = new ShadowSociety();
        s.join(40, 6);
        s.join(60, 0);
        Due.answer("16: lampOf(0)", s.lampOf(0), 0);
        Due.answer("17: purseOf(0)", s.purseOf(0), 50);
        s.buyLamp(1, 8);
        Due.answer("16: lampOf(0)", s.lampOf(0), 0);
        Due.answer("16: lampOf(1)", s.lampOf(1), 8);
        Due.answer("17: purseOf(0)", s.purseOf(0), 50);
        Due.answer("17: purseOf(1)", s.purseOf(1), 42);
        s.certify(1);
        s.pass(12);
        Due.answer("16: lampOf(1)", s.lampOf(1), 0);
        Due.answer("17: purseOf(1)", s.purseOf(1), 42 - 16 - 10);
    }

    private static void hats() {
        ShadowSociety s = new ShadowSociety();
        s.join(40, 6);
        s.join(60, 0);
        s.join(55, 10);
        Due.answer("18: wears(0)", s.wears(0), 0);
        Due.answer("18: wears(1)", s.wears(1), -1);
        Due.answer("19: hatOn(0)", s.hatOn(0), 6);
        Due.answer("19: hatOn(1)", s.hatOn(1), 0);
        Due.answer("20: hasLent(0)", s.hasLent(0), false);
        Due.answer("20: hasLent(1)", s.hasLent(1), false);
        s.borrow(0, 2);
        Due.answer("18: wears(0)", s.wears(0), 2);
        Due.answer("18: wears(2)", s.wears(2), -1);
        Due.answer("19: hatOn(0)", s.hatOn(0), 10);
        Due.answer("19: hatOn(2)", s.hatOn(2), 0);
        Due.answer("20: hasLent(0)", s.hasLent(0), false);
        Due.answer("20: hasLent(2)", s.hasLent(2), true);
        s.pass(12);
        Due.answer("20: hasLent(2) behind the audit", s.hasLent(2), false);
        Due.answer("19: hatOn(2) behind the audit", s.hatOn(2), 10);
    }

    private static void expelledBehindThree() {
        ShadowSociety s = new ShadowSociety();
        s.join(40, 6);
        s.join(40, 6);
        int[] revokedThen = {1, 2, 2, 3};
        for (int day = 0; day < 4; day++) {
            Due.answer("21: isExpelled(0)", s.isExpelled(0), false);
            if (day == 2) {
                s.certify(0);
            } else {
                s.buyLamp(0, 1);
                s.certify(0);
            }
            s.pass(24);
            Due.answer("13: revoked()", s.revoked(), revokedThen[day]);
        }
        Due.answer("21: isExpelled(0), three in all", s.isExpelled(0), true);
        Due.answer("21: isExpelled(1)", s.isExpelled(1), false);
        s.pass(72);
        Due.answer("21: isExpelled(0) for good", s.isExpelled(0), true);
    }

    private static void noSuchMember() {
        ShadowSociety s = new ShadowSociety();
        s.join(40, 6);
        s.join(60, 0);
        for (int bad : new int[] {-1, 2, 9, 10, Integer.MIN_VALUE, Integer.MAX_VALUE}) {
            Due.refusal(s, "16: lampOf(" + bad + ")", Due.OUT_OF_BOUNDS, () -> s.lampOf(bad));
            Due.refusal(s, "17: purseOf(" + bad + ")", Due.OUT_OF_BOUNDS, () -> s.purseOf(bad));
            Due.refusal(s, "18: wears(" + bad + ")", Due.OUT_OF_BOUNDS, () -> s.wears(bad));
            Due.refusal(s, "19: hatOn(" + bad + ")", Due.OUT_OF_BOUNDS, () -> s.hatOn(bad));
            Due.refusal(s, "20: hasLent(" + bad + ")", Due.OUT_OF_BOUNDS, () -> s.hasLent(bad));
            Due.refusal(s, "21: isExpelled(" + bad + ")", Due.OUT_OF_BOUNDS, () -> s.isExpelled(bad));
        }
    }
}
