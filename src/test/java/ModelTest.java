/** Promises 1 to 33 together: runs of 512 calls, each answer beside that of the model. */
public final class ModelTest {
    private static final int RUNS = 300;
    private static final int CALLS = 512;

    /** Calls that come often stand here several times. */
    private static final String[] CALLS_TO_MAKE = {
        "join", "buyLamp", "buyLamp", "dropLamp", "borrow", "borrow", "borrow", "borrow", "giveBack", "giveBack",
        "certify", "certify", "pass", "pass", "digest", "digest", "digest", "digest", "digest", "digest",
        "members", "hour", "hourOfDay", "seized", "revoked", "certificates", "honestOnes", "lampOf", "purseOf", "wears",
        "hatOn", "hasLent", "isExpelled", "shadowOf", "honestShadow", "certified", "isHonest", "longest",
        "hoursUntilAudit", "auditBrings", "richestThen", "bestHat", "longestIn", "meanShadow"
    };
    private static final int[] WILD = {-1, 0, 10, 21, 24, 73, 100, 715827883, Integer.MIN_VALUE, Integer.MAX_VALUE};

    private static long seed;

    public static void main(String[] args) {
        for (int run = 0; run < RUNS; run++) {
            seed = 1000003L * run + 17;
            play(run);
        }
        Due.end();
    }

    private static void play(int run) {
        ShadowSociety society = new ShadowSociety();
        Model model = new Model();
        int joinsAtFirst = run % 11;
        for (int i = 0; i < CALLS; i++) {
            String call = i < joinsAtFirst ? "join" : CALLS_TO_MAKE[below(CALLS_TO_MAKE.length)];
            int a = argument(firstRange(call, run));
            int b = argument(secondRange(call));
            String name = "run " + run + ", call " + i + ": " + call + "(" + a + ", " + b + ")";
            Due.answer(name, answer(society, call, a, b), model.answer(call, a, b));
        }
    }

    /** The numbers come from a fixed row, so that each run of the test makes the same calls. */
    private static int below(int bound) {
        seed = seed * 6364136223846793005L + 1442695040888963407L;
        return (int) ((seed >>> 33) % bound);
    }

    private static int argument(int range) {
        return below(25) == 0 ? WILD[below(WILD.length)] : below(range);
    }

    private static int firstRange(String call, int run) {
        if (call.equals("join")) {
            return run % 3 == 0 ? 20 : 100;
        }
        if (call.equals("pass")) {
            return below(4) == 0 ? 74 : 9;
        }
        return 10;
    }

    private static int secondRange(String call) {
        if (call.equals("join")) {
            return below(3) == 0 ? 22 : 4;
        }
        return call.equals("honestShadow") ? 25 : call.equals("buyLamp") && below(2) == 0 ? 3 : 10;
    }

    private static String answer(ShadowSociety s, String call, int a, int b) {
        try {
            return call.equals("meanShadow") ? Double.toString(s.meanShadow()) : Long.toString(number(s, call, a, b));
        } catch (RuntimeException thrown) {
            return Due.nameOf(thrown);
        }
    }

    private static long number(ShadowSociety s, String call, int a, int b) {
        switch (call) {
            case "join": return s.join(a, b);
            case "buyLamp": return s.buyLamp(a, b);
            case "dropLamp": return s.dropLamp(a);
            case "borrow": return s.borrow(a, b);
            case "giveBack": return s.giveBack(a);
            case "certify": return s.certify(a);
            case "pass": return s.pass(a);
            case "members": return s.members();
            case "hour": return s.hour();
            case "hourOfDay": return s.hourOfDay();
            case "seized": return s.seized();
            case "revoked": return s.revoked();
            case "certificates": return s.certificates();
            case "honestOnes": return s.honestOnes();
            case "lampOf": return s.lampOf(a);
            case "purseOf": return s.purseOf(a);
            case "wears": return s.wears(a);
            case "hatOn": return s.hatOn(a);
            case "hasLent": return s.hasLent(a) ? 1 : 0;
            case "isExpelled": return s.isExpelled(a) ? 1 : 0;
            case "shadowOf": return s.shadowOf(a);
            case "honestShadow": return s.honestShadow(a, b);
            case "certified": return s.certified(a);
            case "isHonest": return s.isHonest(a) ? 1 : 0;
            case "longest": return s.longest();
            case "hoursUntilAudit": return s.hoursUntilAudit();
            case "auditBrings": return s.auditBrings(a);
            case "richestThen": return s.richestThen();
            case "bestHat": return s.bestHat(a);
            case "longestIn": return s.longestIn(a);
            case "digest": return s.digest();
            default: throw new IllegalArgumentException("no such call: " + call);
        }
    }
}
