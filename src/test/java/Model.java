/**
 * The document once more, written in another way to check against: it keeps where each hat is, not who wears what,
 * and answers what would be by copying itself and letting the hours go by.
 */
final class Model {
    private static final int HOME = -1;

    private int count = 0;
    private int[] height = new int[10];
    private int[] hat = new int[10];
    private int[] hatIsOn = new int[10];
    private int[] purse = new int[10];
    private int[] lamp = new int[10];
    private int[] certificate = new int[10];
    private int[] certificateHour = new int[10];
    private int[] falseOnes = new int[10];
    private int hour = 0;
    private int seized = 0;
    private int revoked = 0;

    private Model copy() {
        Model c = new Model();
        c.count = count;
        c.height = height.clone();
        c.hat = hat.clone();
        c.hatIsOn = hatIsOn.clone();
        c.purse = purse.clone();
        c.lamp = lamp.clone();
        c.certificate = certificate.clone();
        c.certificateHour = certificateHour.clone();
        c.falseOnes = falseOnes.clone();
        c.hour = hour;
        c.seized = seized;
        c.revoked = revoked;
        return c;
    }

    /** What the call answers, as a text; an exception by its name. */
    String answer(String call, int a, int b) {
        switch (call) {
            case "join":
                return a < 1 || a > 99 || b < 0 || b > 20 ? Due.ILLEGAL_ARGUMENT
                    : count == 10 ? Due.ILLEGAL_STATE : text(join(a, b));
            case "pass":
                return a < 1 || a > 72 ? Due.ILLEGAL_ARGUMENT : text(pass(a));
            case "members":
                return text(count);
            case "hour":
                return text(hour);
            case "hourOfDay":
                return text(hour % 24);
            case "seized":
                return text(seized);
            case "revoked":
                return text(revoked);
            case "certificates":
                return text(certificates());
            case "honestOnes":
                return text(honestOnes());
            case "longest":
                return text(longest());
            case "hoursUntilAudit":
                return text(hoursUntilAudit());
            case "richestThen":
                return text(richestThen());
            case "meanShadow":
                return Double.toString(meanShadow());
            case "digest":
                return Long.toString(digest());
            default:
                return a < 0 || a >= count ? Due.OUT_OF_BOUNDS : answerOfMember(call, a, b);
        }
    }

    private String answerOfMember(String call, int m, int b) {
        switch (call) {
            case "buyLamp":
                return b < 1 || b > 9 ? Due.ILLEGAL_ARGUMENT
                    : lamp[m] != 0 || purse[m] < b ? Due.ILLEGAL_STATE : text(buyLamp(m, b));
            case "dropLamp":
                return lamp[m] == 0 ? Due.ILLEGAL_STATE : text(dropLamp(m));
            case "borrow":
                return b < 0 || b >= count ? Due.OUT_OF_BOUNDS : m == b ? Due.ILLEGAL_ARGUMENT
                    : !canBorrow(m, b) ? Due.ILLEGAL_STATE : text(borrow(m, b));
            case "giveBack":
                return wears(m) == -1 || wears(m) == m ? Due.ILLEGAL_STATE : text(giveBack(m));
            case "certify":
                return falseOnes[m] >= 3 ? Due.ILLEGAL_STATE : text(certify(m));
            case "lampOf":
                return text(lamp[m]);
            case "purseOf":
                return text(purse[m]);
            case "wears":
                return text(wears(m));
            case "hatOn":
                return text(hatOn(m));
            case "hasLent":
                return text(hasLent(m));
            case "isExpelled":
                return text(falseOnes[m] >= 3 ? 1 : 0);
            case "shadowOf":
                return text(shadow(m));
            case "honestShadow":
                return b < 0 || b > 23 ? Due.OUT_OF_BOUNDS : text(honest(m, b));
            case "certified":
                return text(certificate[m]);
            case "isHonest":
                return certificate[m] == -1 ? Due.ILLEGAL_STATE : text(isHonest(m) ? 1 : 0);
            case "auditBrings":
                return text(auditBrings(m));
            case "bestHat":
                return text(bestHat(m));
            case "longestIn":
                return text(longestIn(m));
            default:
                return "no such call: " + call;
        }
    }

    private static String text(int number) {
        return Integer.toString(number);
    }

    private int join(int h, int hatHeight) {
        height[count] = h;
        hat[count] = hatHeight;
        hatIsOn[count] = hatHeight == 0 ? HOME : count;
        purse[count] = 50;
        certificate[count] = -1;
        count++;
        return count - 1;
    }

    private int buyLamp(int m, int brightness) {
        lamp[m] = brightness;
        purse[m] -= brightness;
        return purse[m];
    }

    private int dropLamp(int m) {
        int had = lamp[m];
        lamp[m] = 0;
        return had;
    }

    private int wears(int m) {
        for (int o = 0; o < count; o++) {
            if (hatIsOn[o] == m) {
                return o;
            }
        }
        return -1;
    }

    private int hatOn(int m) {
        return wears(m) == -1 ? 0 : hat[wears(m)];
    }

    private int hasLent(int m) {
        return hatIsOn[m] != HOME && hatIsOn[m] != m ? 1 : 0;
    }

    private boolean canBorrow(int m, int o) {
        boolean bareOrOwn = wears(m) == -1 || wears(m) == m;
        return m != o && hat[o] != 0 && wears(o) == o && bareOrOwn;
    }

    private int borrow(int m, int o) {
        if (hatIsOn[m] == m) {
            hatIsOn[m] = HOME;
        }
        hatIsOn[o] = m;
        return hat[o];
    }

    private int giveBack(int m) {
        int o = wears(m);
        hatIsOn[o] = HOME;
        wearOwnIfFree(o);
        wearOwnIfFree(m);
        return o;
    }

    private void wearOwnIfFree(int m) {
        if (hat[m] > 0 && hatIsOn[m] == HOME && wears(m) == -1) {
            hatIsOn[m] = m;
        }
    }

    private int certify(int m) {
        certificate[m] = shadow(m);
        certificateHour[m] = hour % 24;
        return certificate[m];
    }

    private int pass(int hours) {
        int before = revoked;
        for (int i = 0; i < hours; i++) {
            hour++;
            if (hour % 24 == 12) {
                audit();
            }
        }
        return revoked - before;
    }

    private void audit() {
        for (int m = 0; m < count; m++) {
            if (lamp[m] != 0) {
                seized++;
                purse[m] -= 2 * lamp[m];
                lamp[m] = 0;
            }
            hatIsOn[m] = hat[m] == 0 ? HOME : m;
            if (certificate[m] != -1 && isHonest(m)) {
                purse[m] += 3;
            } else if (certificate[m] != -1) {
                purse[m] -= 10;
                certificate[m] = -1;
                falseOnes[m]++;
                revoked++;
            }
        }
    }

    private static int natural(int tall, int hourOfDay) {
        boolean sun = hourOfDay >= 7 && hourOfDay <= 17;
        int steps = hourOfDay > 12 ? hourOfDay - 12 : 12 - hourOfDay;
        return sun ? tall * steps / 2 : 0;
    }

    private int shadow(int m) {
        return natural(height[m] + hatOn(m), hour % 24) + 3 * lamp[m];
    }

    private int honest(int m, int hourOfDay) {
        return natural(height[m] + hat[m], hourOfDay);
    }

    private boolean isHonest(int m) {
        return certificate[m] == honest(m, certificateHour[m]);
    }

    private int certificates() {
        int n = 0;
        for (int m = 0; m < count; m++) {
            n += certificate[m] == -1 ? 0 : 1;
        }
        return n;
    }

    private int honestOnes() {
        int n = 0;
        for (int m = 0; m < count; m++) {
            n += certificate[m] != -1 && isHonest(m) ? 1 : 0;
        }
        return n;
    }

    private int longest() {
        int best = -1;
        for (int m = count - 1; m >= 0; m--) {
            if (best == -1 || shadow(m) >= shadow(best)) {
                best = m;
            }
        }
        return best;
    }

    private int hoursUntilAudit() {
        int n = 1;
        while ((hour + n) % 24 != 12) {
            n++;
        }
        return n;
    }

    private Model behind(int hours) {
        Model then = copy();
        if (hours > 0) {
            then.pass(hours);
        }
        return then;
    }

    private int auditBrings(int m) {
        return behind(hoursUntilAudit()).purse[m] - purse[m];
    }

    private int richestThen() {
        Model then = behind(hoursUntilAudit());
        int best = -1;
        for (int m = count - 1; m >= 0; m--) {
            if (best == -1 || then.purse[m] >= then.purse[best]) {
                best = m;
            }
        }
        return best;
    }

    private int bestHat(int m) {
        int best = -1;
        int bestShadow = -1;
        for (int o = 0; o < count; o++) {
            if (canBorrow(m, o)) {
                Model then = copy();
                then.borrow(m, o);
                if (then.shadow(m) > bestShadow) {
                    best = o;
                    bestShadow = then.shadow(m);
                }
            }
        }
        return best;
    }

    private int longestIn(int m) {
        int best = 0;
        for (int hours = 1; hours < 24; hours++) {
            if (behind(hours).shadow(m) > behind(best).shadow(m)) {
                best = hours;
            }
        }
        return best;
    }

    private double meanShadow() {
        double sum = 0;
        for (int m = 0; m < count; m++) {
            sum += shadow(m);
        }
        return count == 0 ? 0 : sum / count;
    }

    private long digest() {
        long d = 1049;
        int[] ofAll = {count, hour, seized, revoked, certificates(), honestOnes(), longest(), richestThen()};
        for (int x : ofAll) {
            d = d * 31 + x;
        }
        for (int m = 0; m < count; m++) {
            int[] ofMember = {lamp[m], purse[m], wears(m), hatOn(m), hasLent(m), falseOnes[m] >= 3 ? 1 : 0, shadow(m),
                certificate[m], auditBrings(m), bestHat(m), longestIn(m)};
            for (int x : ofMember) {
                d = d * 31 + x;
            }
        }
        return d;
    }
}
