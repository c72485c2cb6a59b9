/** All that the face tells of a society, as one text; under 200 calls, so that an object can be asked for two. */
final class Picture {
    private static final int[] HOURS = {7, 8, 11};

    private Picture() {
    }

    static String of(ShadowSociety s) {
        StringBuilder text = new StringBuilder();
        text.append("members ").append(s.members());
        text.append(" hour ").append(s.hour());
        text.append(" hourOfDay ").append(s.hourOfDay());
        text.append(" seized ").append(s.seized());
        text.append(" revoked ").append(s.revoked());
        text.append(" certificates ").append(s.certificates());
        text.append(" honestOnes ").append(s.honestOnes());
        text.append(" longest ").append(s.longest());
        text.append(" hoursUntilAudit ").append(s.hoursUntilAudit());
        text.append(" richestThen ").append(s.richestThen());
        text.append(" meanShadow ").append(s.meanShadow());
        text.append(" digest ").append(s.digest());
        for (int m = 0; m < s.members(); m++) {
            addMember(text, s, m);
        }
        return text.toString();
    }

    private static void addMember(StringBuilder text, ShadowSociety s, int m) {
        text.append(" [").append(m);
        text.append(" lampOf ").append(s.lampOf(m));
        text.append(" purseOf ").append(s.purseOf(m));
        text.append(" wears ").append(s.wears(m));
        text.append(" hatOn ").append(s.hatOn(m));
        text.append(" hasLent ").append(s.hasLent(m));
        text.append(" isExpelled ").append(s.isExpelled(m));
        text.append(" shadowOf ").append(s.shadowOf(m));
        for (int hour : HOURS) {
            text.append(" honestShadow ").append(s.honestShadow(m, hour));
        }
        int length = s.certified(m);
        text.append(" certified ").append(length);
        if (length != -1) {
            text.append(" isHonest ").append(s.isHonest(m));
        }
        text.append(" auditBrings ").append(s.auditBrings(m));
        text.append(" bestHat ").append(s.bestHat(m));
        text.append(" longestIn ").append(s.longestIn(m)).append(']');
    }
}
