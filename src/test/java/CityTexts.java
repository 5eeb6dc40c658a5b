import java.util.Random;

/** City texts by chance: good ones, and such with something wrong in them. */
final class CityTexts {
    private static final String[] PIECES = {
        "station", "truck", "trip", "pace", "balance", "bonus", "fare", "minutes", "bikes", "docks", "hour",
        ";", "(", ")", "+", "-", "*", "/", "0", "1", "7", "20", "21", "50", "51", "99", "100", "101", "999",
        "1000", "1439", "1440", "9999", "10000", "00000", "\t", ",", "@", "stations", "abcdefgh", "abcdefghi",
        "station 1 1 3 2;", "trip 0 0 5;", "pace 3 3;", "fare 1;", "(((((", "((((((", "\u00ff", "\u0000",
    };

    private final Random random;

    CityTexts(Random random) {
        this.random = random;
    }

    String good() {
        StringBuilder text = new StringBuilder();
        int style = random.nextInt(4);
        int stations = style == 0 ? 8 : 1 + random.nextInt(6);
        int span = new int[] {3, 12, 40, 100}[random.nextInt(4)];
        int docks = new int[] {2, 4, 8, 20}[random.nextInt(4)];
        settings(text, 0);
        int fill = random.nextInt(4);
        for (int i = 0; i < stations; i++) {
            int d = 1 + random.nextInt(docks);
            int b = fill == 0 ? d : fill == 1 ? 0 : random.nextInt(d + 1);
            text.append("station " + random.nextInt(span) + " " + random.nextInt(span) + " " + d + " " + b + ";");
        }
        int trucks = random.nextInt(4);
        for (int i = 0; i < trucks; i++) {
            text.append("truck " + random.nextInt(stations) + " " + (1 + random.nextInt(docks)) + ";");
        }
        settings(text, 1);
        int trips = random.nextInt(3) == 0 ? 0 : random.nextInt(20);
        int minutes = random.nextBoolean() ? 1440 : 30;
        for (int i = 0; i < trips && text.length() < 640; i++) {
            text.append("trip " + random.nextInt(stations) + " " + random.nextInt(stations)
                    + " " + random.nextInt(minutes) + ";");
        }
        return text.length() <= 700 ? text.toString() : good();
    }

    private void settings(StringBuilder text, int place) {
        if (random.nextInt(3) == place) {
            text.append("pace " + random.nextInt(random.nextBoolean() ? 100 : 12) + " "
                    + random.nextInt(random.nextBoolean() ? 100 : 12) + ";\n");
        }
        if (random.nextInt(3) == place) {
            text.append("balance " + random.nextInt(51) + ";");
        }
        if (random.nextInt(3) == place) {
            text.append("bonus " + random.nextInt(101) + " " + random.nextInt(1000) + ";");
        }
        if (random.nextInt(3) == place) {
            text.append("fare ");
            sum(text, 0);
            text.append(";");
        }
    }

    private void sum(StringBuilder text, int open) {
        int count = 1 + random.nextInt(4);
        for (int i = 0; i < count; i++) {
            if (i > 0) {
                text.append("+-*/".charAt(random.nextInt(4)));
            }
            factor(text, open);
        }
    }

    private void factor(StringBuilder text, int open) {
        int kind = random.nextInt(10);
        if (kind < 2 && open < 5 && text.length() < 300) {
            text.append("(");
            sum(text, open + 1);
            text.append(")");
        } else if (kind < 5) {
            text.append(random.nextInt(new int[] {3, 20, 300, 10000}[random.nextInt(4)]));
        } else {
            text.append(new String[] {"minutes", "bikes", "docks", "hour"}[random.nextInt(4)]);
        }
    }

    /** A good text in which some pieces are put, dropped or doubled, or that is cut off. */
    String spoiled() {
        StringBuilder text = new StringBuilder(good());
        int times = 1 + random.nextInt(3);
        for (int i = 0; i < times && text.length() > 0; i++) {
            int at = random.nextInt(text.length());
            switch (random.nextInt(5)) {
                case 0 -> text.deleteCharAt(at);
                case 1 -> text.insert(at, PIECES[random.nextInt(PIECES.length)]);
                case 2 -> text.insert(at, " " + PIECES[random.nextInt(PIECES.length)] + " ");
                case 3 -> text.setLength(at);
                default -> text.setCharAt(at, (char) random.nextInt(256));
            }
        }
        return text.length() <= 700 ? text.toString() : text.substring(0, 700);
    }
}
