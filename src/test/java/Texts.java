import java.util.Random;

/** Texts for the tape: fed as a whole, and made up by chance. */
final class Texts {
    private Texts() {
    }

    static int[] packed(String text) {
        int[] fours = new int[(text.length() + 19) / 20 * 5];
        for (int i = 0; i < 4 * fours.length; i++) {
            int sign = i < text.length() ? text.charAt(i) : 32;
            fours[i / 4] |= (sign & 255) << 8 * (3 - i % 4);
        }
        return fours;
    }

    /** Feeds a text and cuts the tape to it. */
    static void feed(TunnelBook book, String text) {
        int[] fours = packed(text);
        for (int i = 0; i < fours.length; i += 5) {
            book.feed(fours[i], fours[i + 1], fours[i + 2], fours[i + 3], fours[i + 4]);
        }
        book.end(text.length());
    }

    static int way(TunnelBook book, int w, String text) {
        feed(book, text);
        return book.way(w);
    }

    static String made(Random random) {
        int longest = 20 + random.nextInt(381);
        StringBuilder text = new StringBuilder();
        int told = 0;
        int parts = random.nextInt(12);
        for (int i = 0; i < parts; i++) {
            if (told < 8 && random.nextInt(4) == 0) {
                text.append("def ").append((char) ('a' + told)).append(blank(random));
                block(random, text, 1, told, longest);
                told++;
            } else {
                step(random, text, 0, told, longest);
            }
        }
        String whole = text.length() > 400 ? text.substring(0, 400) : text.toString();
        return random.nextInt(3) == 0 ? spoilt(random, whole) : whole;
    }

    private static String blank(Random random) {
        return new String[] {"", " ", "\n", "  "}[random.nextInt(4)];
    }

    private static void block(Random random, StringBuilder text, int depth, int told, int longest) {
        text.append("{").append(blank(random));
        int steps = random.nextInt(4);
        for (int i = 0; i < steps; i++) {
            step(random, text, depth, told, longest);
        }
        text.append("}").append(blank(random));
    }

    private static void step(Random random, StringBuilder text, int depth, int told, int longest) {
        if (text.length() > longest) {
            return;
        }
        switch (random.nextInt(9)) {
            case 0, 1 -> text.append("line ").append(number(random, 1, 9999)).append(";");
            case 2 -> text.append("turn ").append(number(random, 1, 15)).append(blank(random)).append(";");
            case 3 -> text.append("rise ").append(number(random, 0, 100000)).append(";");
            case 4 -> text.append("fall ").append(number(random, 0, 100000)).append(" ;");
            case 5 -> text.append(random.nextBoolean() ? "shaft;" : "poles;");
            case 6 -> {
                if (told > 0) {
                    text.append("do ").append((char) ('a' + random.nextInt(told + (random.nextInt(9) == 0 ? 1 : 0))));
                    text.append(blank(random)).append(";");
                }
            }
            default -> {
                text.append("repeat ").append(number(random, 1, 99)).append(blank(random));
                if (depth < 8 || random.nextInt(6) == 0) {
                    block(random, text, depth + 1, told, longest);
                } else {
                    text.append("{}");
                }
            }
        }
        text.append(blank(random));
    }

    private static String number(Random random, int low, int high) {
        switch (random.nextInt(24)) {
            case 0: return Integer.toString(high);
            case 1: return "00" + low;
            case 2: return random.nextInt(4) == 0 ? Integer.toString(high + 1) : Integer.toString(low);
            case 3: return random.nextInt(4) == 0 ? "99999999999999999999" : "1";
            case 4: return random.nextInt(4) == 0 ? "0" : "2";
            case 5: return Integer.toString(low + random.nextInt(high - low + 1));
            default: return Integer.toString(Math.min(high, low + random.nextInt(9)));
        }
    }

    private static String spoilt(Random random, String text) {
        StringBuilder other = new StringBuilder(text);
        int times = 1 + random.nextInt(2);
        for (int i = 0; i < times && other.length() > 0; i++) {
            int at = random.nextInt(other.length());
            switch (random.nextInt(3)) {
                case 0 -> other.deleteCharAt(at);
                case 1 -> other.setCharAt(at, "{};0129 zaiAZ\t\n\u00e9def".charAt(random.nextInt(18)));
                default -> other.setLength(at);
            }
        }
        return other.toString();
    }
}
