import java.util.Random;

/** Texts at random: games of many shapes, and such as are nearly games. */
final class Games {
    private static final String ALPHABET = "DEMP0123456789:;,<>=+-*!()|&#cnruhgstpqwxyz";

    private final Random random;

    Games(Random random) {
        this.random = random;
    }

    String text() {
        String text = game();
        for (int tries = 0; text.length() > 240 && tries < 50; tries++) {
            text = game();
        }
        return random.nextInt(5) == 0 ? spoiled(text) : text;
    }

    String part() {
        StringBuilder part = new StringBuilder();
        for (int k = random.nextInt(9); k > 0; k--) {
            part.append(any(ALPHABET));
        }
        return part.toString();
    }

    private String spoiled(String text) {
        int at = random.nextInt(text.length());
        String rest = text.substring(at + 1);
        return switch (random.nextInt(3)) {
            case 0 -> text.substring(0, at) + rest;
            case 1 -> text.substring(0, at) + any(ALPHABET) + text.charAt(at) + rest;
            default -> text.substring(0, at) + any(ALPHABET) + rest;
        };
    }

    private char any(String of) {
        return of.charAt(random.nextInt(of.length()));
    }

    private String game() {
        StringBuilder text = new StringBuilder("D").append(any("1234")).append(any("123456")).append(';');
        for (int k = random.nextInt(random.nextInt(8) == 0 ? 10 : 5); k > 0; k--) {
            rule(text);
        }
        return text.append('E').append(ending()).append(';').toString();
    }

    private String ending() {
        String[] usual = {"0", "#h=0", "3<w", "#h+#g=0|2<x", "!#s"};
        return random.nextInt(3) > 0 ? usual[random.nextInt(usual.length)] : expr(0, 0, false);
    }

    private void rule(StringBuilder text) {
        boolean choosing = random.nextBoolean();
        String guard = random.nextInt(3) == 0 ? "1" : random.nextInt(3) == 0 ? "w<3" : expr(0, 0, choosing);
        text.append(choosing ? 'M' : 'P').append(guard).append(':');
        for (int k = random.nextInt(5); k > 0; k--) {
            text.append(effect(choosing)).append(k > 1 ? "," : "");
        }
        text.append(';');
    }

    private String effect(boolean choosing) {
        return switch (random.nextInt(7)) {
            case 0 -> "n";
            case 1 -> "+" + expr(1, 0, choosing);
            case 2 -> any("wxyz") + "=" + expr(1, 0, choosing);
            case 3 -> "w=w+1";
            default -> card(choosing) + ">" + any("hgstpq");
        };
    }

    private String card(boolean choosing) {
        return "" + (choosing && random.nextBoolean() ? 'c' : any("hgstpq"));
    }

    /** Rarely one bracket too deep, and rarely one comparison too many. */
    private String expr(int level, int deep, boolean choosing) {
        if (level == 5) {
            return unit(deep, choosing);
        }
        StringBuilder text = new StringBuilder(expr(level + 1, deep, choosing));
        for (int k = 0; k < 3 && random.nextInt(5) == 0; k++) {
            if (level == 2 && k > 0 && random.nextInt(20) > 0) {
                break;
            }
            text.append(any(new String[] {"|", "&", "<=", "+-", "*"}[level])).append(expr(level + 1, deep, choosing));
        }
        return text.toString();
    }

    private String unit(int deep, boolean choosing) {
        return switch (random.nextInt(12)) {
            case 0 -> "!".repeat(1 + random.nextInt(random.nextInt(6) == 0 ? 5 : 2)) + unit(deep + 1, choosing);
            case 1, 2 -> deep > 4 ? "1" : "(" + expr(0, deep + 1, choosing) + ")";
            case 3, 4 -> "#" + any("hgstpq");
            case 5, 6 -> any("ru") + card(choosing);
            case 7, 8 -> "" + any("wxyz");
            case 9 -> "" + random.nextInt(random.nextInt(20) == 0 ? 2000 : 1000);
            default -> "" + random.nextInt(4);
        };
    }
}
