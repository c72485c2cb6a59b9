import java.util.ArrayList;

/** A society for honest shadows. */
public final class ShadowSociety {
    private static final int NONE = -1;
    private static final int MOST_MEMBERS = 10;
    private static final int TALLEST_MEMBER = 99;
    private static final int TALLEST_HAT = 20;
    private static final int FIRST_PURSE = 50;
    private static final int BRIGHTEST_LAMP = 9;
    private static final int SHADOW_OF_BRIGHTNESS = 3;
    private static final int FINE_OF_BRIGHTNESS = 2;
    private static final int FINE_OF_FALSE_CERTIFICATE = 10;
    private static final int REWARD_OF_HONEST_CERTIFICATE = 3;
    private static final int REVOCATIONS_TO_EXPEL = 3;
    private static final int HOURS_OF_DAY = 24;
    private static final int FIRST_SUN = 7;
    private static final int LAST_SUN = 17;
    private static final int NOON = 12;
    private static final int MOST_HOURS_TO_PASS = 72;
    private static final long DIGEST_START = 1049;
    private static final long DIGEST_FACTOR = 31;

    private final ArrayList<Member> roll = new ArrayList<Member>();
    private int now = 0;
    private int seizedInAll = 0;
    private int revokedInAll = 0;

    public ShadowSociety() {
    }

    // ---- members

    public int join(int height, int hat) throws IllegalArgumentException, IllegalStateException {
        if (height < 1 || height > TALLEST_MEMBER) {
            throw new IllegalArgumentException("height is not 1 to 99");
        }
        if (hat < 0 || hat > TALLEST_HAT) {
            throw new IllegalArgumentException("hat is not 0 to 20");
        }
        if (roll.size() >= MOST_MEMBERS) {
            throw new IllegalStateException("there are 10 members");
        }
        Member joined = new Member(roll.size(), height, hat);
        joined.putOnOwnHat();
        roll.add(joined);
        return joined.number;
    }

    public int buyLamp(int member, int brightness)
            throws IndexOutOfBoundsException, IllegalArgumentException, IllegalStateException {
        Member buyer = memberNumbered(member);
        if (brightness < 1 || brightness > BRIGHTEST_LAMP) {
            throw new IllegalArgumentException("brightness is not 1 to 9");
        }
        if (buyer.lamp > 0) {
            throw new IllegalStateException("this one has a lamp");
        }
        if (buyer.purse < brightness) {
            throw new IllegalStateException("the purse has less");
        }
        buyer.purse -= brightness;
        buyer.lamp = brightness;
        return buyer.purse;
    }

    public int dropLamp(int member) throws IndexOutOfBoundsException, IllegalStateException {
        Member dropper = memberNumbered(member);
        int brightness = dropper.lamp;
        if (brightness == 0) {
            throw new IllegalStateException("there is no lamp");
        }
        dropper.lamp = 0;
        return brightness;
    }

    public int borrow(int member, int owner)
            throws IndexOutOfBoundsException, IllegalArgumentException, IllegalStateException {
        Member borrower = memberNumbered(member);
        Member lender = memberNumbered(owner);
        if (member == owner) {
            throw new IllegalArgumentException("both are the same");
        }
        if (!canBorrow(borrower, lender)) {
            throw new IllegalStateException("this hat can't be borrowed now");
        }
        lender.hatOwner = null;
        borrower.hatOwner = lender;
        return lender.hat;
    }

    public int giveBack(int member) throws IndexOutOfBoundsException, IllegalStateException {
        Member giver = memberNumbered(member);
        Member owner = giver.hatOwner;
        if (owner == null || owner == giver) {
            throw new IllegalStateException("this one wears no borrowed hat");
        }
        giver.hatOwner = null;
        if (!owner.wearsBorrowedHat()) {
            owner.putOnOwnHat();
        }
        if (!isHatLent(giver)) {
            giver.putOnOwnHat();
        }
        return owner.number;
    }

    public int certify(int member) throws IndexOutOfBoundsException, IllegalStateException {
        Member certifiedOne = memberNumbered(member);
        if (certifiedOne.isOut()) {
            throw new IllegalStateException("this one is expelled");
        }
        certifiedOne.certifiedHour = hourOfDay();
        certifiedOne.certifiedLength = certifiedOne.shadowAt(hourOfDay());
        return certifiedOne.certifiedLength;
    }

    public int pass(int hours) throws IllegalArgumentException {
        if (hours < 1 || hours > MOST_HOURS_TO_PASS) {
            throw new IllegalArgumentException("hours is not 1 to 72");
        }
        int revokedBefore = revokedInAll;
        for (int i = 0; i < hours; i++) {
            passOneHour();
        }
        return revokedInAll - revokedBefore;
    }

    // ---- what there is

    public int members() {
        return roll.size();
    }

    public int hour() {
        return now;
    }

    public int hourOfDay() {
        return now % HOURS_OF_DAY;
    }

    public int seized() {
        return seizedInAll;
    }

    public int revoked() {
        return revokedInAll;
    }

    public int certificates() {
        int found = 0;
        for (int i = 0; i < roll.size(); i++) {
            if (roll.get(i).hasCertificate()) {
                found++;
            }
        }
        return found;
    }

    public int honestOnes() {
        int found = 0;
        for (int i = 0; i < roll.size(); i++) {
            if (roll.get(i).hasHonestCertificate()) {
                found++;
            }
        }
        return found;
    }

    public int lampOf(int member) throws IndexOutOfBoundsException {
        return memberNumbered(member).lamp;
    }

    public int purseOf(int member) throws IndexOutOfBoundsException {
        return memberNumbered(member).purse;
    }

    public int wears(int member) throws IndexOutOfBoundsException {
        return memberNumbered(member).numberOfHatOwner();
    }

    public int hatOn(int member) throws IndexOutOfBoundsException {
        return memberNumbered(member).heightOfWornHat();
    }

    public boolean hasLent(int member) throws IndexOutOfBoundsException {
        return isHatLent(memberNumbered(member));
    }

    public boolean isExpelled(int member) throws IndexOutOfBoundsException {
        return memberNumbered(member).isOut();
    }

    // ---- shadows

    public int shadowOf(int member) throws IndexOutOfBoundsException {
        return memberNumbered(member).shadowAt(hourOfDay());
    }

    public int honestShadow(int member, int hour) throws IndexOutOfBoundsException {
        Member asked = memberNumbered(member);
        if (hour < 0 || hour >= HOURS_OF_DAY) {
            throw new IndexOutOfBoundsException("hour is not 0 to 23");
        }
        return asked.honestShadowAt(hour);
    }

    public int certified(int member) throws IndexOutOfBoundsException {
        return memberNumbered(member).certifiedLength;
    }

    public boolean isHonest(int member) throws IndexOutOfBoundsException, IllegalStateException {
        Member asked = memberNumbered(member);
        if (!asked.hasCertificate()) {
            throw new IllegalStateException("there is no certificate");
        }
        return asked.hasHonestCertificate();
    }

    public int longest() {
        int best = NONE;
        int longestShadow = 0;
        for (int i = 0; i < roll.size(); i++) {
            int shadow = roll.get(i).shadowAt(hourOfDay());
            if (best == NONE || shadow > longestShadow) {
                best = i;
                longestShadow = shadow;
            }
        }
        return best;
    }

    // ---- what would be

    public int hoursUntilAudit() {
        int hourOfDay = hourOfDay();
        return hourOfDay < NOON ? NOON - hourOfDay : NOON + HOURS_OF_DAY - hourOfDay;
    }

    public int auditBrings(int member) throws IndexOutOfBoundsException {
        return memberNumbered(member).gainAtAudit();
    }

    public int richestThen() {
        int best = NONE;
        int greatestPurse = 0;
        for (int i = 0; i < roll.size(); i++) {
            Member candidate = roll.get(i);
            int purseThen = candidate.purse + candidate.gainAtAudit();
            if (best == NONE || purseThen > greatestPurse) {
                best = i;
                greatestPurse = purseThen;
            }
        }
        return best;
    }

    public int bestHat(int member) throws IndexOutOfBoundsException {
        return bestHatFor(memberNumbered(member));
    }

    public int longestIn(int member) throws IndexOutOfBoundsException {
        return hoursToLongestShadow(memberNumbered(member));
    }

    public double meanShadow() {
        if (roll.isEmpty()) {
            return 0.0;
        }
        int sum = 0;
        for (int i = 0; i < roll.size(); i++) {
            sum += roll.get(i).shadowAt(hourOfDay());
        }
        return (double) sum / roll.size();
    }

    public long digest() {
        long d = DIGEST_START;
        d = mixed(d, members());
        d = mixed(d, hour());
        d = mixed(d, seized());
        d = mixed(d, revoked());
        d = mixed(d, certificates());
        d = mixed(d, honestOnes());
        d = mixed(d, longest());
        d = mixed(d, richestThen());
        for (int i = 0; i < roll.size(); i++) {
            d = mixedWithMember(d, roll.get(i));
        }
        return d;
    }

    // ---- behind the face

    private Member memberNumbered(int number) {
        if (number < 0 || number >= roll.size()) {
            throw new IndexOutOfBoundsException("there is no such member");
        }
        return roll.get(number);
    }

    private static boolean canBorrow(Member borrower, Member lender) {
        return borrower != lender && lender.wearsOwnHat() && !borrower.wearsBorrowedHat();
    }

    private boolean isHatLent(Member owner) {
        for (int i = 0; i < roll.size(); i++) {
            Member wearer = roll.get(i);
            if (wearer != owner && wearer.hatOwner == owner) {
                return true;
            }
        }
        return false;
    }

    private void passOneHour() {
        now++;
        if (hourOfDay() == NOON) {
            seizeLamps();
            sendHatsBack();
            judgeCertificates();
        }
    }

    private void seizeLamps() {
        for (int i = 0; i < roll.size(); i++) {
            Member fined = roll.get(i);
            if (fined.lamp > 0) {
                fined.purse -= fined.fineForLamp();
                fined.lamp = 0;
                seizedInAll++;
            }
        }
    }

    private void sendHatsBack() {
        for (int i = 0; i < roll.size(); i++) {
            roll.get(i).putOnOwnHat();
        }
    }

    private void judgeCertificates() {
        for (int i = 0; i < roll.size(); i++) {
            Member judged = roll.get(i);
            boolean isFalse = judged.hasCertificate() && !judged.hasHonestCertificate();
            judged.purse += judged.gainOfCertificate();
            if (isFalse) {
                judged.certifiedLength = NONE;
                judged.revocations++;
                revokedInAll++;
            }
        }
    }

    private int bestHatFor(Member borrower) {
        int best = NONE;
        int longestShadow = 0;
        for (int i = 0; i < roll.size(); i++) {
            Member lender = roll.get(i);
            if (canBorrow(borrower, lender)) {
                int shadow = naturalShadow(borrower.height + lender.hat, hourOfDay());
                if (best == NONE || shadow > longestShadow) {
                    best = i;
                    longestShadow = shadow;
                }
            }
        }
        return best;
    }

    private int hoursToLongestShadow(Member asked) {
        int best = 0;
        int longestShadow = asked.shadowAt(hourOfDay());
        for (int ahead = 1; ahead < HOURS_OF_DAY; ahead++) {
            int shadow = shadowAhead(asked, ahead);
            if (shadow > longestShadow) {
                best = ahead;
                longestShadow = shadow;
            }
        }
        return best;
    }

    private int shadowAhead(Member asked, int ahead) {
        int hourThen = (hourOfDay() + ahead) % HOURS_OF_DAY;
        // From the audit on the lamp is gone and the own hat is back, and that is the honest shadow.
        return ahead < hoursUntilAudit() ? asked.shadowAt(hourThen) : asked.honestShadowAt(hourThen);
    }

    private static int naturalShadow(int heightWithHat, int hourOfDay) {
        if (hourOfDay < FIRST_SUN || hourOfDay > LAST_SUN) {
            return 0;
        }
        int steps = Math.abs(hourOfDay - NOON);
        return heightWithHat * steps / 2;
    }

    private static long mixed(long d, long x) {
        return d * DIGEST_FACTOR + x;
    }

    private long mixedWithMember(long start, Member member) {
        long d = start;
        d = mixed(d, member.lamp);
        d = mixed(d, member.purse);
        d = mixed(d, member.numberOfHatOwner());
        d = mixed(d, member.heightOfWornHat());
        d = mixed(d, isHatLent(member) ? 1 : 0);
        d = mixed(d, member.isOut() ? 1 : 0);
        d = mixed(d, member.shadowAt(hourOfDay()));
        d = mixed(d, member.certifiedLength);
        d = mixed(d, member.gainAtAudit());
        d = mixed(d, bestHatFor(member));
        d = mixed(d, hoursToLongestShadow(member));
        return d;
    }

    private static final class Member {
        private final int number;
        private final int height;
        private final int hat;
        private int purse = FIRST_PURSE;
        private int lamp = 0;
        /** Whose hat is worn, null for none: the one place that tells where the hats are. */
        private Member hatOwner = null;
        private int certifiedLength = NONE;
        private int certifiedHour = 0;
        private int revocations = 0;

        private Member(int number, int height, int hat) {
            this.number = number;
            this.height = height;
            this.hat = hat;
        }

        private void putOnOwnHat() {
            hatOwner = hat > 0 ? this : null;
        }

        private boolean wearsOwnHat() {
            return hatOwner == this;
        }

        private boolean wearsBorrowedHat() {
            return hatOwner != null && hatOwner != this;
        }

        private int numberOfHatOwner() {
            return hatOwner == null ? NONE : hatOwner.number;
        }

        private int heightOfWornHat() {
            return hatOwner == null ? 0 : hatOwner.hat;
        }

        private int shadowAt(int hourOfDay) {
            return naturalShadow(height + heightOfWornHat(), hourOfDay) + SHADOW_OF_BRIGHTNESS * lamp;
        }

        private int honestShadowAt(int hourOfDay) {
            return naturalShadow(height + hat, hourOfDay);
        }

        private boolean hasCertificate() {
            return certifiedLength != NONE;
        }

        private boolean hasHonestCertificate() {
            return hasCertificate() && certifiedLength == honestShadowAt(certifiedHour);
        }

        private boolean isOut() {
            return revocations >= REVOCATIONS_TO_EXPEL;
        }

        private int fineForLamp() {
            return FINE_OF_BRIGHTNESS * lamp;
        }

        private int gainOfCertificate() {
            if (!hasCertificate()) {
                return 0;
            }
            return hasHonestCertificate() ? REWARD_OF_HONEST_CERTIFICATE : -FINE_OF_FALSE_CERTIFICATE;
        }

        private int gainAtAudit() {
            return gainOfCertificate() - fineForLamp();
        }
    }
}
