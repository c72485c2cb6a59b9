import java.math.BigInteger;

/** Promise 33: digest, beside numbers that are worked out by hand. */
public final class DigestTest {
    public static void main(String[] args) {
        startsWith1049();
        allInTheirOrder();
        countsOneOrZero();
        wrapsAround();
        followsTheFace();
        Due.end();
    }

    private static void startsWith1049() {
        Due.sentence("33: A number d starts with 1049");
        ShadowSociety s = new ShadowSociety();
        Due.answer("digest() without members", s.digest(), due(0, 0, 0, 0, 0, 0, -1, -1));
        s.pass(30);
        Due.answer("digest() without members at 30", s.digest(), due(0, 30, 0, 0, 0, 0, -1, -1));
    }

    /** No number stands beside one as great, so that none can change its place unseen. */
    private static void allInTheirOrder() {
        Due.sentence("33: (all in their order)");
        ShadowSociety s = new ShadowSociety();
        s.join(40, 6);
        s.join(60, 0);
        s.join(55, 10);
        s.join(99, 20);
        Scenes.spendDownTo(s, 3, 23);
        s.pass(8);
        s.buyLamp(0, 4);
        s.borrow(1, 2);
        s.certify(0);
        s.certify(2);
        s.pass(23);
        s.certify(3);
        s.pass(1);
        s.borrow(1, 2);
        s.buyLamp(1, 9);
        s.certify(0);
        s.certify(1);
        s.certify(2);
        s.dropLamp(1);
        s.buyLamp(1, 1);
        Due.answer("digest()", s.digest(), due(
            4, 32, 1, 2, 4, 2, 3, 0,
            0, 28, 0, 6, 0, 0, 92, 92, 3, 3, 9,
            1, 40, 2, 10, 0, 0, 143, 167, -12, -1, 9,
            0, 40, -1, 0, 1, 0, 110, 110, -10, 3, 9,
            0, 23, 3, 20, 0, 0, 238, 297, 3, 0, 9));
    }

    private static void countsOneOrZero() {
        Due.sentence("33: (whether something is so counts 1 or 0)");
        ShadowSociety s = new ShadowSociety();
        s.join(1, 0);
        s.join(1, 5);
        for (int day = 0; day < 3; day++) {
            s.buyLamp(0, 1);
            s.certify(0);
            s.pass(24);
        }
        s.borrow(0, 1);
        Due.answer("digest() of who is expelled, and who lent", s.digest(), due(
            2, 72, 3, 3, 0, 0, 0, 1,
            0, 11, 1, 5, 0, 1, 0, -1, 0, -1, 7,
            0, 50, -1, 0, 1, 0, 0, -1, 0, -1, 17));
    }

    private static void wrapsAround() {
        Due.sentence("33: d becomes d * 31 + x, which wraps around as a 64-bit integer");
        ShadowSociety s = new ShadowSociety();
        long[] numbers = {1, 0, 0, 0, 0, 0, 0, 0, 0, 50, -1, 0, 0, 0, 0, -1, 0, -1, 7};
        s.join(1, 0);
        Due.answer("digest() of one", s.digest(), due(numbers));
        Due.answer("d leaves 64 bits", unbounded(numbers).bitLength() > 64, true);
        ShadowSociety ten = new ShadowSociety();
        long[] ofTen = new long[8 + 11 * 10];
        ofTen[0] = 10;
        for (int m = 0; m < 10; m++) {
            ten.join(1, 0);
            System.arraycopy(numbers, 8, ofTen, 8 + 11 * m, 11);
        }
        Due.answer("digest() of ten", ten.digest(), due(ofTen));
    }

    private static void followsTheFace() {
        Due.sentence("33: for each of the following numbers x");
        ShadowSociety s = Scenes.busy();
        Due.answer("digest() at 8", s.digest(), due(numbersOf(s)));
        s.pass(4);
        Due.answer("digest() at 12", s.digest(), due(numbersOf(s)));
        ShadowSociety later = Scenes.expelled();
        later.pass(9);
        Due.answer("digest() at 81", later.digest(), due(numbersOf(later)));
    }

    private static long[] numbersOf(ShadowSociety s) {
        long[] numbers = new long[8 + 11 * s.members()];
        long[] ofAll = {s.members(), s.hour(), s.seized(), s.revoked(), s.certificates(), s.honestOnes(), s.longest(),
            s.richestThen()};
        System.arraycopy(ofAll, 0, numbers, 0, 8);
        for (int m = 0; m < s.members(); m++) {
            long[] ofMember = {s.lampOf(m), s.purseOf(m), s.wears(m), s.hatOn(m), s.hasLent(m) ? 1 : 0,
                s.isExpelled(m) ? 1 : 0, s.shadowOf(m), s.certified(m), s.auditBrings(m), s.bestHat(m), s.longestIn(m)};
            System.arraycopy(ofMember, 0, numbers, 8 + 11 * m, 11);
        }
        return numbers;
    }

    private static long due(long... numbers) {
        return unbounded(numbers).longValue();
    }

    private static BigInteger unbounded(long... numbers) {
        BigInteger d = BigInteger.valueOf(1049);
        for (long x : numbers) {
            d = d.multiply(BigInteger.valueOf(31)).add(BigInteger.valueOf(x));
        }
        return d;
    }
}
