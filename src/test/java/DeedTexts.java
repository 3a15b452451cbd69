import java.util.Random;

/** Makes texts of deeds, most of them right, some with a fault or more than the document lets. */
final class DeedTexts {
    private final Random random;

    DeedTexts(Random random) {
        this.random = random;
    }

    String text(int persons) {
        StringBuilder text = new StringBuilder();
        int others = random.nextInt(6);
        for (int i = 0; i < others; i++) {
            text.append(end(i, persons)).append("; ");
        }
        text.append("rest ").append(house());
        if (random.nextInt(4) == 0) {
            spoil(text);
        }
        return text.substring(0, Math.min(120, text.length()));
    }

    private String end(int i, int persons) {
        if (i == 0 && random.nextInt(2) == 0) {
            return "man " + random.nextInt(random.nextInt(9) == 0 ? 103 : 60) + " " + person(persons) + test();
        }
        if (random.nextInt(3) == 0) {
            return "fix " + random.nextInt(400) + " " + house() + test();
        }
        String how = random.nextInt(3) > 0 ? "stem" : "heads";
        return "line " + random.nextInt(random.nextInt(5) == 0 ? 14 : 5) + " " + person(persons) + " " + how + test();
    }

    private char house() {
        return (char) ('a' + random.nextInt(8));
    }

    private String person(int persons) {
        int p = random.nextInt(30) == 0 ? persons : random.nextInt(Math.max(1, random.nextBoolean() ? 3 : persons));
        return (random.nextInt(5) == 0 && p < 10 ? "p0" : "p") + p;
    }

    private String test() {
        switch (random.nextInt(9)) {
            case 0: return " if year" + sign() + random.nextInt(30);
            case 1: return " if yield" + sign() + random.nextInt(1500);
            case 2: return " if alive" + sign() + random.nextInt(8);
            default: return "";
        }
    }

    private char sign() {
        return "=<>".charAt(random.nextInt(3));
    }

    private void spoil(StringBuilder text) {
        int place = random.nextInt(text.length());
        String signs = "restfixlinemanifyearyieldalive 0123456789;=<>abcdefghi";
        char sign = random.nextInt(9) == 0 ? (char) random.nextInt(256) : signs.charAt(random.nextInt(signs.length()));
        switch (random.nextInt(4)) {
            case 0: text.setCharAt(place, sign); break;
            case 1: text.deleteCharAt(place); break;
            case 2: text.insert(place, sign); break;
            default: text.setLength(place); break;
        }
    }
}
