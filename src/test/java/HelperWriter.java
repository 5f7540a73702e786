import java.util.Random;

/** Writes texts of towns: most are some, others have a byte too many, too few, or another one. */
final class HelperWriter {
    private static final String SIGNS = "pkvodw<=>0123456789()!&|; feariles\u0000\u007fx";
    private final Random random;

    HelperWriter(Random random) {
        this.random = random;
    }

    String town(int most) {
        StringBuilder town = new StringBuilder(clause());
        boolean many = random.nextInt(12) == 0;
        for (int i = 0; i < 12; i++) {
            if (!many && random.nextInt(3) == 0) break;
            String next = ";" + (many ? "ill " + number() : clause());
            if (town.length() + next.length() > most && random.nextInt(20) > 0) break;
            town.append(next);
        }
        if (random.nextInt(4) == 0) spoil(town);
        if (town.length() > most) town.setLength(most);
        return town.toString();
    }

    private void spoil(StringBuilder town) {
        int at = random.nextInt(town.length() + 1);
        int how = random.nextInt(4);
        char sign = SIGNS.charAt(random.nextInt(SIGNS.length()));
        if (how == 0) town.setLength(at);
        else if (how == 1 && at < town.length()) town.deleteCharAt(at);
        else if (how == 2 && at < town.length()) town.setCharAt(at, sign);
        else town.insert(at, sign);
    }

    private String clause() {
        int which = random.nextInt(5);
        if (which == 0) return "ill " + number();
        return (which < 4 ? "fear " : "ease ") + number() + " " + either(0);
    }

    private String number() {
        int digits = random.nextInt(3);
        if (digits == 0) return "" + random.nextInt(10);
        return "" + (1 + random.nextInt(7)) + random.nextInt(10);
    }

    private String either(int depth) {
        StringBuilder e = new StringBuilder(both(depth));
        while (random.nextInt(4) == 0) e.append('|').append(both(depth));
        return e.toString();
    }

    private String both(int depth) {
        StringBuilder t = new StringBuilder(factor(depth));
        while (random.nextInt(4) == 0) t.append('&').append(factor(depth));
        return t.toString();
    }

    private String factor(int depth) {
        int which = random.nextInt(8);
        // Now and then one deeper than may be.
        if (depth < 4 || random.nextInt(30) == 0) {
            if (which < 2) return "!" + factor(depth + 1);
            if (which < 4) return "(" + either(depth + 1) + ")";
        }
        String number = random.nextInt(8) == 0 ? number() : "" + random.nextInt(10);
        return "" + "pkvodw".charAt(random.nextInt(6)) + "<=>".charAt(random.nextInt(3)) + number;
    }
}
