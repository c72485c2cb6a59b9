/** The example of README.md, call by call. */
public final class ReadmeTest {
    public static void main(String[] args) {
        ShadowSociety society = new ShadowSociety();
        int ann = society.join(40, 6);
        int bob = society.join(60, 0);
        Due.answer("join(40, 6)", ann, 0);
        Due.answer("join(60, 0)", bob, 1);
        Due.answer("pass(8)", society.pass(8), 0);
        Due.answer("bestHat(bob)", society.bestHat(bob), ann);
        Due.answer("borrow(bob, ann)", society.borrow(bob, ann), 6);
        Due.answer("certify(bob)", society.certify(bob), 132);
        Due.answer("honestShadow(bob, 8)", society.honestShadow(bob, 8), 120);
        Due.answer("buyLamp(ann, 4)", society.buyLamp(ann, 4), 46);
        Due.answer("auditBrings(bob)", society.auditBrings(bob), -10);
        Due.answer("auditBrings(ann)", society.auditBrings(ann), -8);
        Due.answer("richestThen()", society.richestThen(), bob);
        Due.answer("longestIn(ann)", society.longestIn(ann), 9);
        Due.answer("pass(4)", society.pass(4), 1);
        Due.answer("purseOf(bob)", society.purseOf(bob), 40);
        Due.answer("purseOf(ann)", society.purseOf(ann), 38);
        Due.answer("wears(ann)", society.wears(ann), ann);
        Due.end();
    }
}
