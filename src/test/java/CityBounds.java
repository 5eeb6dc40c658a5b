import java.util.List;

/** CITY TEXT of the Description at its limits and one beyond, and promises 1 to 6. */
final class CityBounds {
    private static final String STATION = "station 0 0 4 2;";
    private static final String[] NO_NUMBERS = {";", "(", ")", "+", "-", "*", "/", "station", "truck", "trip", "pace",
        "balance", "bonus", "fare", "minutes", "bikes", "docks", "hour", "x", "abcdefgh", "abcdefghi", "12345",
        "00000", "@", ",", "A", "\t", "\r", "\u0000", "\u0080", "\u00ff"};

    private CityBounds() {
    }

    static void look() {
        bufferOf700Bytes();
        everyByte();
        words();
        numbers();
        illegalTokens();
        grammarOfStatements();
        grammarOfSums();
        numbering();
        counts();
        rangesOfPlaces();
        rangesOfSettings();
        withoutStatements();
        rangeOfFareNumbers();
        lowestOffset();
        lowestKind();
        endsTooEarly();
        repeated();
        rangeErrors();
        tooMany();
        newObject();
        append();
        parseLengths();
        parseAnswers();
        parseEmptiesTheBuffer();
        parseErrorKeepsTheRest();
        sizes();
        timeAndFleet();
    }

    private static void good(String text, int stations) {
        Check.due("parse of " + text, Check.parse(new BikeShare(), text), stations);
    }

    private static void fault(String text, int offset, int kind) {
        Check.due("parse of " + text, Check.parse(new BikeShare(), text), -2 - (8 * offset + kind));
    }

    // ---- bytes and tokens

    private static void bufferOf700Bytes() {
        Document.says(0, "CITY TEXT. The input buffer holds at most 700 bytes.");
        String text = STATION + " ".repeat(674) + "balance 9;";
        BikeShare x = new BikeShare();
        Check.due("700 bytes are held", Check.put(x, text), 700);
        Check.due("none more", x.append(0, 0, 0, 0, 0), -1);
        Check.badArgument(x, "parse(701)", () -> x.parse(701));
        Check.due("the last of them counts", x.parse(700), 1);
        Check.due("all of them are held again", Check.put(x, text), 700);
        Check.due("one byte less", x.parse(699), -2 - (8 * 699 + 1));
        Check.due("680 bytes", Check.put(x, text.substring(0, 680)), 680);
        Check.due("twenty more", x.append(0x20202020, 0x20202020, 0x20202020, 0x20202020, 0x2020203b), 700);
        Check.due("the last byte is a sign too much", x.parse(700), -2 - (8 * 699 + 1));
    }

    private static void everyByte() {
        Document.says(0, "Bytes 32 (space) and 10 (line feed) are white space; they may stand between tokens and are"
                + " otherwise ignored.");
        Document.says(0, "or one of the characters ; ( ) + - * /.");
        for (int sign = 0; sign < 256; sign++) {
            String at = "byte " + sign + " ";
            boolean white = sign == 32 || sign == 10;
            boolean digit = sign >= '0' && sign <= '9';
            boolean letter = sign >= 'a' && sign <= 'z';
            BikeShare x = new BikeShare();
            Check.due(at + "alone", Check.parse(x, "" + (char) sign), white ? 0 : -3);
            int between = white || sign == '0' ? 0 : letter ? -2 - 1 : -2 - (8 * 7 + (digit ? 3 : 1));
            Check.due(at + "between word and number", Check.parse(x, "balance" + (char) sign + "10;"), between);
            int behind = white || digit ? 0 : -2 - (8 * (sign == ';' ? 10 : 9) + 1);
            Check.due(at + "behind a number", Check.parse(x, "balance 1" + (char) sign + ";"), behind);
            boolean operator = sign == '+' || sign == '-' || sign == '*' || sign == '/';
            int inside = operator || digit ? 0 : -2 - (8 * (white || sign == ';' ? 7 : 6) + 1);
            Check.due(at + "between factors", Check.parse(x, "fare 1" + (char) sign + "1;"), inside);
        }
        good(" \n" + "station 1\n2 \n 3 0 \n;\n ", 1);
        fault("bal ance 10;", 0, 1);
        fault("balance 1 0;", 10, 1);
        fault("balance\t10;", 7, 1);
        fault("balance 10;\r\n", 11, 1);
    }

    private static void words() {
        Document.says(0, "A token is a word (a maximal run of lower-case letters a to z, 1 to 8 letters long),");
        fault("a", 0, 1);
        fault("abcdefgh 1;", 0, 1);
        fault("abcdefghi 1;", 0, 1);
        fault("stations 0 0 4 2;", 0, 1);
        fault("stationss 0 0 4 2;", 0, 1);
        fault("fare minutess;", 5, 1);
        fault("fare minutesss;", 5, 1);
        fault("fare minutes minutes;", 13, 1);
        fault("fare minutesbikes;", 5, 1);
        fault("fare Minutes;", 5, 1);
        fault("farE 1;", 0, 1);
        fault("far`;", 0, 1);
        fault("far{;", 0, 1);
        good("station0 0 4 2;truck0 1;trip0 0 0;pace0 0;balance0;bonus0 0;fare0;", 1);
        good("fare(minutes)+bikes-docks*hour/1;", 0);
        for (String word : new String[] {"station", "truck", "trip", "pace", "balance", "bonus", "fare"}) {
            nearlyAWord("", word);
        }
        for (String word : new String[] {"minutes", "bikes", "docks", "hour"}) {
            nearlyAWord("fare ", word);
        }
    }

    /** A word with a letter changed, dropped or added is none of the grammar's, and an error at its first letter. */
    private static void nearlyAWord(String before, String word) {
        for (int i = 0; i < word.length(); i++) {
            String head = before + word.substring(0, i);
            String tail = word.substring(i + 1);
            fault(head + (word.charAt(i) == 'z' ? 'y' : 'z') + tail + " 1;", before.length(), 1);
            fault(head + tail + " 1;", before.length(), 1);
        }
        fault(before + word + "s", before.length(), 1);
        fault(before + "s" + word, before.length(), 1);
        fault(before + word + word, before.length(), 1);
    }

    private static void numbers() {
        Document.says(0, "a number (a maximal run of digits, 1 to 4 digits long)");
        good("station 9 9 9 9;", 1);
        good("station 0099 0099 0020 0020;truck 0000 0020;trip 0000 0000 1439;", 1);
        good("pace 0099 0099;balance 0050;bonus 0100 0999;fare 9999;", 0);
        String[] texts = {"station ", "station 0 ", "station 0 0 ", "station 0 0 1 ", STATION + "truck ",
            STATION + "truck 0 ", STATION + "trip ", STATION + "trip 0 ", STATION + "trip 0 0 ", "pace ", "pace 0 ",
            "balance ", "bonus ", "bonus 0 ", "fare ", "fare 1+", "fare 2*("};
        for (String text : texts) {
            fault(text + "00001", text.length(), 1);
            fault(text + "10000", text.length(), 1);
            fault(text + "99999999999999999999", text.length(), 1);
        }
        fault("pace 11;", 7, 1);
        fault("pace 1 1 1;", 9, 1);
        fault("fare 1minutes;", 6, 1);
    }

    private static void illegalTokens() {
        Document.says(0, "Any other byte, and any longer run, is an illegal token that starts at its first byte.");
        fault("  abcdefghi", 2, 1);
        fault("fare  12345;", 6, 1);
        fault("fare \n@@;", 6, 1);
        fault(STATION + "\n_", 17, 1);
        fault("fare 1;\u00ff", 7, 1);
    }

    // ---- grammar

    private static void grammarOfStatements() {
        Document.says(0, "city = { statement \";\" } statement = \"station\" x y docks bikes | \"truck\" station capacity"
                + " | \"trip\" station station minute | \"pace\" pace pace | \"balance\" percent | \"bonus\" percent cents");
        Document.says(0, "All unquoted items that are not defined by the grammar are numbers.");
        good("", 0);
        fault(";", 0, 1);
        fault(STATION + ";", 16, 1);
        wrongAtEachPlace("", "station", "0", "0", "4", "2", ";");
        wrongAtEachPlace(STATION, "truck", "0", "1", ";");
        wrongAtEachPlace(STATION, "trip", "0", "0", "0", ";");
        wrongAtEachPlace("", "pace", "0", "0", ";");
        wrongAtEachPlace("", "balance", "0", ";");
        wrongAtEachPlace("", "bonus", "0", "0", ";");
    }

    /** Another token at any place of a statement is an error at that token. */
    private static void wrongAtEachPlace(String before, String... tokens) {
        StringBuilder text = new StringBuilder(before);
        for (String token : tokens) {
            boolean number = token.equals("0") || token.equals("1") || token.equals("2") || token.equals("4");
            for (String wrong : NO_NUMBERS) {
                boolean statementWord = text.length() == before.length() && wrong.length() > 3
                        && "station truck trip pace balance bonus fare".contains(wrong);
                if (!wrong.equals(token) && !statementWord) {
                    fault(text + wrong, text.length(), 1);
                }
            }
            if (!number) {
                fault(text + "1", text.length(), 1);
            }
            text.append(token).append(' ');
        }
        good(text.toString(), before.isEmpty() && !tokens[0].equals("station") ? 0 : 1);
    }

    private static void grammarOfSums() {
        Document.says(0, "| \"fare\" sum sum = term { ( \"+\" | \"-\" ) term } term = factor { ( \"*\" | \"/\" ) factor }"
                + " factor = number | \"minutes\" | \"bikes\" | \"docks\" | \"hour\" | \"(\" sum \")\"");
        String[] factors = {"0", "minutes", "bikes", "docks", "hour", "(7)", "((1-2)*hour)"};
        for (String left : factors) {
            good("fare " + left + ";", 0);
            for (String right : factors) {
                for (String operator : new String[] {"+", "-", "*", "/"}) {
                    good("fare " + left + operator + right + ";", 0);
                }
            }
        }
        String[] noFactors = {";", ")", "+", "-", "*", "/", "station", "fare", "minute", "12345", "@", "abcdefghi"};
        String[] wantsFactor = {"fare ", "fare 1+", "fare 1-", "fare 1*", "fare bikes/", "fare (", "fare 1+(2*("};
        for (String text : wantsFactor) {
            for (String wrong : noFactors) {
                fault(text + wrong, text.length(), 1);
            }
        }
        String[] noOperators = {"1", "minutes", "(", "fare", "station", "12345", "@", "abcdefghi"};
        String[] wantsOperator = {"fare 1 ", "fare docks ", "fare (1) ", "fare 1+2 ", "fare (1 ", "fare ((1)*2 "};
        for (String text : wantsOperator) {
            for (String wrong : noOperators) {
                fault(text + wrong, text.length(), 1);
            }
        }
        fault("fare 1)", 6, 1);
        fault("fare (1))", 8, 1);
        fault("fare (1;", 7, 1);
        fault("fare ((1);", 9, 1);
    }

    private static void numbering() {
        Document.says(0, "Stations, trucks and trips are numbered from 0, each in the order of the text.");
        BikeShare x = Check.city("station 1 0 9 3;truck 0 5;station 2 0 9 4;trip 1 0 7;truck 1 6;trip 0 1 8;"
                + "station 3 0 9 5;");
        for (int i = 0; i < 3; i++) {
            Check.due("bikes of station " + i, x.bikes(i), 3 + i);
        }
        for (int i = 0; i < 2; i++) {
            Check.due("place of truck " + i, x.truck(i, 0), i);
            Check.due("capacity of truck " + i, x.truck(i, 4), 5 + i);
        }
        x.pass(7);
        Check.due("trip 0", x.ridesBetween(1, 0), 1);
        Check.due("not yet trip 1", x.total(2), 1);
        x.pass(1);
        Check.due("trip 1", x.ridesBetween(0, 1), 1);
        BikeShare y = Check.city("station 0 0 9 1;station 9 9 9 0;trip 0 1 5;trip 0 0 5;");
        y.pass(5);
        Check.due("of two at one minute the first of the text has number 0", y.ridesBetween(0, 1), 1);
    }

    private static void counts() {
        Document.says(0, "There are at most 8 stations, 3 trucks and 30 trips; each other statement can occur once.");
        for (int count = 1; count <= 8; count++) {
            good(STATION.repeat(count), count);
        }
        fault(STATION.repeat(9), 128, 4);
        BikeShare x = Check.city(STATION + "truck 0 1;".repeat(3) + "trip 0 0 1;".repeat(30));
        Check.due("3 trucks", x.size(1), 3);
        Check.due("30 trips", x.size(2), 30);
        fault(STATION + "truck 0 1;".repeat(4), 16 + 30, 4);
        fault(STATION + "trip 0 0 1;".repeat(31), 16 + 330, 4);
        String[] once = {"pace 1 1;", "balance 1;", "bonus 1 1;", "fare 1;"};
        good(once[0] + once[1] + once[2] + once[3], 0);
        for (String statement : once) {
            good(STATION + statement, 1);
            fault(statement + statement, statement.length(), 2);
            fault(statement + STATION + statement, statement.length() + 16, 2);
        }
    }

    // ---- ranges

    /** The lowest and the highest number are fine, one beyond is an error at the number. */
    private static void range(String before, int least, int most, String after) {
        for (int number : new int[] {least, most}) {
            Check.due(before + number + after, Check.parse(new BikeShare(), before + number + after) >= 0, true);
        }
        fault(before + (most + 1) + after, before.length(), 3);
        fault(before + 9999 + after, before.length(), 3);
        if (least > 0) {
            fault(before + (least - 1) + after, before.length(), 3);
        }
    }

    private static void rangesOfPlaces() {
        Document.says(0, "Ranges: x and y 0 to 99; docks 1 to 20; bikes 0 to docks; station the number of a station that"
                + " was declared before; capacity 1 to 20; minute 0 to 1439;");
        range("station ", 0, 99, " 0 4 2;");
        range("station 0 ", 0, 99, " 4 2;");
        range("station 0 0 ", 1, 20, " 0;");
        for (int docks : new int[] {1, 2, 19, 20}) {
            range("station 0 0 " + docks + " ", 0, docks, ";");
        }
        for (int count : new int[] {1, 2, 7, 8}) {
            String stations = STATION.repeat(count);
            range(stations + "truck ", 0, count - 1, " 1;");
            range(stations + "trip ", 0, count - 1, " 0 0;");
            range(stations + "trip 0 ", 0, count - 1, " 0;");
        }
        fault("truck 0 1;", 6, 3);
        fault("trip 0 0 0;", 5, 3);
        fault("truck 0 1;" + STATION, 6, 3);
        fault(STATION + "trip 0 1 0;" + STATION, 16 + 7, 3);
        fault(STATION + "trip 1 0 0;" + STATION, 16 + 5, 3);
        range(STATION + "truck 0 ", 1, 20, ";");
        range(STATION + "trip 0 0 ", 0, 1439, ";");
        BikeShare x = Check.city("station 0 99 20 20;station 99 0 1 0;truck 1 20;truck 0 1;");
        Check.due("places at their limits", x.rideMinutes(0, 1), 199);
        Check.due("20 bikes", x.bikes(0), 20);
        Check.due("1 dock", x.freeDocks(1), 1);
        Check.due("capacity 20", x.truck(0, 4), 20);
        Check.due("capacity 1", x.truck(1, 4), 1);
    }

    private static void rangesOfSettings() {
        Document.says(0, "pace 0 to 99 (first that of riders, then that of trucks;");
        range("pace ", 0, 99, " 0;");
        range("pace 0 ", 0, 99, ";");
        for (int[] pace : new int[][] {{0, 99}, {99, 0}}) {
            BikeShare x = Check.city("pace " + pace[0] + " " + pace[1] + ";station 0 0 4 2;station 0 10 4 2;truck 0 1;");
            x.dispatch(0, 1, 0);
            Check.due("riders", x.rideMinutes(0, 1), 1 + pace[0]);
            Check.due("trucks", x.truck(0, 2), 1 + pace[1]);
        }
        Document.says(0, "percent of balance 0 to 50");
        range("balance ", 0, 50, ";");
        Check.due("0 percent", Check.city("balance 0;station 0 0 20 0;").imbalance(), 0);
        Check.due("50 percent", Check.city("balance 50;station 0 0 20 0;").imbalance(), 10);
        Document.says(0, "percent of bonus 0 to 100 and cents 0 to 999");
        range("bonus ", 0, 100, " 0;");
        range("bonus 0 ", 0, 999, ";");
        Check.due("0 percent", Check.city("bonus 0 999;station 0 0 20 0;").bonusAt(0), 0);
        Check.due("100 percent", Check.city("bonus 100 999;station 0 0 20 19;").bonusAt(0), 999);
        Check.due("0 cents", Check.city("bonus 100 0;station 0 0 20 19;").bonusAt(0), 0);
    }

    private static void withoutStatements() {
        String bare = "station 0 0 5 0;station 0 10 4 0;truck 0 1;";
        BikeShare x = Check.city("pace 99 99;balance 50;bonus 100 999;fare 9999;" + bare);
        Check.parse(x, "pace 99 99;balance 50;bonus 100 999;fare 9999;" + bare);
        Check.parse(x, bare);
        for (BikeShare y : List.of(Check.city(bare), x)) {
            Document.says(0, "without the statement 10 and 5);");
            Check.due("pace 10", y.rideMinutes(0, 1), 11);
            y.dispatch(0, 1, 0);
            Check.due("pace 5", y.truck(0, 2), 6);
            Document.says(0, "(20 without it);");
            Check.due("20 percent of 5 is 1", y.isBalanced(0), false);
            Check.due("20 percent of 4 is 0", y.isBalanced(1), true);
            Document.says(0, "(0 and 0 without it).");
            Check.due("no bonus", y.bonusAt(0), 0);
            Document.says(0, "without this statement the sum is 100.");
            Check.due("100", y.quote(0, 1), 100);
        }
        Check.due("0 percent is not reached by cents alone", Check.city("bonus 0 9;station 0 0 5 0;").bonusAt(0), 0);
    }

    private static void rangeOfFareNumbers() {
        Document.says(0, "A number in fare is 0 to 9999;");
        Check.due("0", Check.city("fare 0;station 0 0 5 0;").quote(0, 0), 0);
        Check.due("9999", Check.city("fare 9999;station 0 0 5 0;").quote(0, 0), 9999);
        Check.due("9999 in a sum", Check.city("fare 9999-9990;station 0 0 5 0;").quote(0, 0), 9);
        fault("fare 10000;", 5, 1);
        fault("fare 1+10000;", 7, 1);
    }

    // ---- errors

    private static void lowestOffset() {
        Document.says(0, "Syntax errors. The parser reports the error with the lowest byte offset;");
        fault("balance 51;@", 8, 3);
        fault("balance 50;@ balance 51;", 11, 1);
        fault("balance 1;balance 51;", 10, 2);
        fault("balance 51;balance 1;", 8, 3);
        fault("station 100 100 21 21;", 8, 3);
        fault("station 99 100 21 21;", 11, 3);
        fault("station 99 99 21 21;", 14, 3);
        fault("station 99 99 20 21;", 17, 3);
        fault(STATION.repeat(8) + "station 100", 128, 4);
        fault("balance 51;" + STATION.repeat(9), 8, 3);
        fault("fare ((((((", 10, 4);
        fault("fare 1 ((((((", 7, 1);
        fault("truck 0", 6, 3);
        fault("pace 100", 5, 3);
        fault("pace 1 1;pace", 9, 2);
    }

    private static void lowestKind() {
        Document.says(0, "of several kinds at one offset the lowest:");
        fault("balance 50 51;", 11, 1);
        fault("balance 1 balance 1;", 10, 1);
        fault("pace 1 1;balance pace", 17, 1);
        fault("fare 1;balance 1 fare", 17, 1);
        fault(STATION.repeat(8) + "balance station", 136, 1);
        fault(STATION + "truck 0 1;".repeat(3) + "balance truck", 54, 1);
        fault(STATION + "trip 0 0 1;".repeat(30) + "pace 1 trip", 353, 1);
        fault("fare (((((1(", 11, 1);
        fault("fare (((((bikes)(((((((", 16, 1);
    }

    private static void endsTooEarly() {
        Document.says(0, "1 (syntax): an illegal token, or a token that cannot continue a city; if the text ends too early,"
                + " the offset is the length of the text.");
        endsAtEachPlace("", "station", "0", "0", "4", "2", ";");
        endsAtEachPlace(STATION, "truck", "0", "1", ";");
        endsAtEachPlace(STATION, "trip", "0", "0", "0", ";");
        endsAtEachPlace(" ", "pace", "0", "0", ";");
        endsAtEachPlace("\n\n", "balance", "0", ";");
        endsAtEachPlace("", "bonus", "0", "0", ";");
        endsAtEachPlace("", "fare", "(", "1", "+", "bikes", ")", "*", "(", "docks", "/", "2", "-", "hour", ")", ";");
        fault("stati", 0, 1);
        fault("fare minute", 5, 1);
        fault(" ".repeat(696) + "fare", 700, 1);
        fault(" ".repeat(693) + "fare 1 ", 700, 1);
        fault(" ".repeat(694) + "fare 1", 700, 1);
        fault(" ".repeat(691) + "fare 1234", 700, 1);
        fault(" ".repeat(690) + "fare 12345", 695, 1);
        fault(" ".repeat(699) + "@", 699, 1);
        good(" ".repeat(693) + "fare 1;", 0);
        good(" ".repeat(700), 0);
    }

    private static void endsAtEachPlace(String before, String... tokens) {
        StringBuilder text = new StringBuilder(before);
        int stations = before.startsWith("station") || tokens[0].equals("station") ? 1 : 0;
        good(text.toString(), before.startsWith("station") ? 1 : 0);
        for (int i = 0; i + 1 < tokens.length; i++) {
            text.append(tokens[i]);
            fault(text.toString(), text.length(), 1);
            text.append(" \n");
            fault(text.toString(), text.length(), 1);
        }
        text.append(tokens[tokens.length - 1]);
        good(text.toString(), stations);
    }

    private static void repeated() {
        Document.says(0, "2 (repeated): the word of a second pace, balance, bonus or fare.");
        fault("pace 1 1; pace 1 1;", 10, 2);
        fault("balance 1;\nbalance", 11, 2);
        fault("bonus 1 1;bonus @", 10, 2);
        fault("fare 1;fare;", 7, 2);
        fault("fare 1;bonus 1 1;balance 1;pace 1 1;fare 1;", 36, 2);
        BikeShare x = Check.city("pace 1 1;balance 1;bonus 1 1;fare 1;");
        Check.due("the first ones of the next text", Check.parse(x, "pace 1 1;balance 1;bonus 1 1;fare 1;"), 0);
        Check.parse(x, "pace 1 1;balance 1;bonus 1 1;fare 1;@");
        Check.due("also behind an error", Check.parse(x, "pace 1 1;balance 1;bonus 1 1;fare 1;"), 0);
    }

    private static void rangeErrors() {
        Document.says(0, "3 (range): a number that is out of its range.");
        fault("balance  0051", 9, 3);
        fault("station 5 5 5 6", 14, 3);
        fault("station 5 5 0 0", 12, 3);
        fault("pace 99\n100", 8, 3);
        fault("bonus 101", 6, 3);
        fault("bonus 100 1000", 10, 3);
        fault(STATION + "trip 0 0 1440", 25, 3);
    }

    private static void tooMany() {
        Document.says(0, "4 (too many): the word station, truck or trip of a statement of which there are too many; an"
                + " opening parenthesis while 5 others are open.");
        fault(STATION.repeat(8) + "\nstation", 129, 4);
        fault(STATION.repeat(8) + "station @", 128, 4);
        fault(STATION.repeat(8) + "fare 1;station 0 0 4 2;", 135, 4);
        fault(STATION + "truck 0 1;".repeat(3) + "truck", 46, 4);
        fault(STATION + "trip 0 0 1;".repeat(30) + "trip", 346, 4);
        good(STATION.repeat(8) + "truck 7 1;".repeat(3) + "trip 7 7 1;".repeat(30), 8);
        good("fare (((((1)))));", 0);
        fault("fare ((((((1))))));", 10, 4);
        fault("fare ( ( ( ( ( (", 15, 4);
        fault("fare (((((1+(", 12, 4);
        good("fare (((((1)+(2)))));", 0);
        fault("fare (((((1)+((2))))));", 14, 4);
        good("fare (((((1)))))+(((((2)))))*(((((3)))));", 0);
        fault("fare (((((1)))))+((((((2))))));", 22, 4);
    }

    // ---- promises 1 to 6

    private static void newObject() {
        Document.says(1, "Creates a simulator without stations, with everything else as without its statement, and with an"
                + " empty input buffer.");
        BikeShare x = new BikeShare();
        Check.due("no stations", x.size(0), 0);
        Check.badArgument(x, "the buffer is empty", () -> x.parse(1));
        BikeShare parsed = new BikeShare();
        Check.due("an empty text", parsed.parse(0), 0);
        Check.due("as after it", Twins.usedUp(x).equals(Twins.usedUp(parsed)), true);
        Check.due("the first bytes", new BikeShare().append(0, 0, 0, 0, 0), 20);
    }

    private static void append() {
        Document.says(2, "Appends twenty bytes to the input buffer: the four bytes of a, then those of b, c, d and e, each"
                + " with the most significant byte first.");
        for (int place = 0; place < 20; place++) {
            for (int sign : new int[] {'@', 0, 127, 128, 255}) {
                int[] words = {0x20202020, 0x20202020, 0x20202020, 0x20202020, 0x20202020};
                int shift = 24 - 8 * (place % 4);
                words[place / 4] = words[place / 4] & ~(255 << shift) | sign << shift;
                BikeShare x = new BikeShare();
                x.append(words[0], words[1], words[2], words[3], words[4]);
                Check.due("byte " + sign + " at " + place, x.parse(20), -2 - (8 * place + 1));
            }
        }
        Document.says(2, "Returns the new length of the buffer; NONE, with nothing appended, if the buffer would have more"
                + " than 700 bytes.");
        BikeShare x = new BikeShare();
        for (int i = 1; i <= 35; i++) {
            Check.due("append " + i, x.append(0x20202020, 0x20202020, 0x20202020, 0x20202020, 0x20202020), 20 * i);
        }
        Check.due("the 36th", x.append(0x40404040, 0, 0, 0, 0), -1);
        Check.due("the 37th", x.append(0x40404040, 0, 0, 0, 0), -1);
        Check.due("nothing was appended", x.parse(700), 0);
        Check.due("there is room again", x.append(0, 0, 0, 0, 0), 20);
        Twins.unchanged("append to a full buffer", CityBounds::full, y -> y.append(1, 2, 3, 4, 5), -1);
    }

    private static BikeShare full() {
        BikeShare x = Check.city(STATION + "truck 0 1;");
        x.rent(0, 0);
        Check.put(x, STATION + " ".repeat(684));
        return x;
    }

    private static void parseLengths() {
        Document.says(3, "Parses the first length bytes of the input buffer as a city and replaces the current one by it.");
        BikeShare x = Check.city(STATION);
        Check.put(x, "station 3 4 9 8;@@@@");
        Check.due("16 of 20 bytes", x.parse(16), 1);
        Check.due("the new city", x.bikes(0), 8);
        Document.says(3, "- `length`: number of bytes, 0 to the length of the buffer");
        Document.says(3, "Throws `IllegalArgumentException` if length is out of range (the buffer stays as it is)");
        for (int filled : new int[] {0, 20, 40, 700}) {
            String text = filled == 0 ? "" : STATION + " ".repeat(filled - 16);
            int[] beyond = {-1, filled + 1, Integer.MAX_VALUE, Integer.MIN_VALUE};
            BikeShare y = new BikeShare();
            for (int length : beyond) {
                Check.put(y, text);
                Check.badArgument(y, "parse(" + length + ") of " + filled, () -> y.parse(length));
                Check.due("the buffer stayed: " + length, y.parse(filled), filled == 0 ? 0 : 1);
            }
            Check.put(y, text);
            Check.due("parse(0) of " + filled, y.parse(0), 0);
        }
        for (int length : new int[] {-1, 41}) {
            Twins.refused("parse(" + length + ")", IllegalArgumentException.class, CityBounds::waiting,
                    y -> y.parse(length));
        }
    }

    /** A city with a history and one full slot. */
    private static BikeShare underWay() {
        BikeShare x = Check.city("station 0 0 4 2;station 3 3 5 4;truck 0 2;trip 0 1 5;pace 7 8;balance 30;bonus 40 9;"
                + "fare minutes*3;");
        x.rent(1, 0);
        x.saveSnapshot(1);
        x.dispatch(0, 1, 0);
        x.pass(1);
        return x;
    }

    private static BikeShare waiting() {
        BikeShare x = underWay();
        Check.put(x, "station 9 9 6 5;station 7 7 7 7;");
        return x;
    }

    private static void parseAnswers() {
        Document.says(3, "Returns the number of stations; -2 - (8 * offset + kind) for a syntax error.");
        good("", 0);
        good(STATION.repeat(8), 8);
        Check.due("offset 0, kind 1", Check.parse(new BikeShare(), "@"), -3);
        Check.due("offset 700, kind 1", Check.parse(new BikeShare(), " ".repeat(696) + "pace"), -5603);
        Check.due("kind 2", Check.parse(new BikeShare(), "fare 1;fare 1;"), -60);
        Check.due("kind 3", Check.parse(new BikeShare(), "pace 100 1;"), -45);
        Check.due("kind 4", Check.parse(new BikeShare(), "fare ((((((1))))));"), -86);
    }

    private static void parseEmptiesTheBuffer() {
        Document.says(3, "After a success or a syntax error the buffer is empty.");
        for (String text : new String[] {STATION, STATION + "@", "", "station", " ".repeat(700)}) {
            BikeShare x = new BikeShare();
            Check.parse(x, text);
            Check.badArgument(x, "the buffer is empty behind " + text, () -> x.parse(1));
            Check.due("it begins anew behind " + text, x.append(0, 0, 0, 0, 0), 20);
        }
        BikeShare x = new BikeShare();
        Check.put(x, STATION + "fare");
        Check.due("what was not parsed", x.parse(16), 1);
        Check.badArgument(x, "is gone too", () -> x.parse(1));
    }

    private static void parseErrorKeepsTheRest() {
        Document.says(3, "After a syntax error everything else stays as it is.");
        String[] wrong = {"@", "station 1 1 1 1;truck 0 7;trip 0 0 9;pace 1 1;balance 1;bonus 1 1;fare 7+8;@",
            "station 1 1 1 2;", "fare 1;fare 2;", "fare ((((((7))))));", "station 1 1 1 1;".repeat(9), "fare"};
        for (String text : wrong) {
            BikeShare x = underWay();
            Check.due("an error: " + text, Check.parse(x, text) < 0, true);
            Check.due("the rest stays: " + text, Twins.usedUp(x).equals(Twins.usedUp(underWay())), true);
        }
    }

    private static void sizes() {
        Document.says(4, "- `what`: 0 stations, 1 trucks, 2 trips Returns the number of things of a sort.");
        Document.says(4, "Throws `IllegalArgumentException` if what is out of range");
        BikeShare most = Check.city(STATION.repeat(8) + "truck 7 1;".repeat(3) + "trip 7 7 1;".repeat(30));
        int[][] due = {{0, 0, 0}, {8, 3, 30}};
        BikeShare[] objects = {new BikeShare(), most};
        for (int i = 0; i < 2; i++) {
            BikeShare x = objects[i];
            for (int what = 0; what < 3; what++) {
                Check.due("size " + what, x.size(what), due[i][what]);
            }
            for (int what : new int[] {-1, 3, Integer.MAX_VALUE, Integer.MIN_VALUE}) {
                Check.badArgument(x, "size " + what, () -> x.size(what));
            }
        }
    }

    private static void timeAndFleet() {
        Document.says(5, "Returns the time.");
        BikeShare x = Check.city("station 0 0 5 5;station 9 0 5 0;truck 0 2;");
        Check.due("at first", x.time(), 0);
        Document.says(6, "Returns the number of all bikes: at stations, on trucks and ridden.");
        Check.due("all at stations", x.fleet(), 5);
        x.rent(0, 1);
        x.rent(0, 1);
        x.rent(0, 1);
        x.dispatch(0, 0, 0);
        Check.due("none at a station", x.bikes(0) + x.bikes(1), 0);
        Check.due("3 ridden, 2 on a truck", x.fleet(), 5);
        x.dispatch(0, 1, 2);
        x.pass(5);
        Check.due("after 5 minutes", x.time(), 5);
        Check.due("the truck is there", x.bikes(1), 2);
        Check.due("all the same", x.fleet(), 5);
        Check.due("no bikes at all", Check.city("station 0 0 5 0;").fleet(), 0);
        Check.due("no stations", new BikeShare().fleet(), 0);
        Check.due("8 full stations", Check.city("station 0 0 20 20;".repeat(8)).fleet(), 160);
    }
}
