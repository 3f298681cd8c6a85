import java.util.function.Supplier;

/** The sentences on the sample text that name a bound: its bytes, its syntax, and numbers out of range. */
public final class TextEdgesTest {
    private static final String[] BEGINNINGS = {
        "", "-", "1", "-1", "12", "123", "-123", "1,", "1,-", "1,2", "1,2,", "1,2,-", "1,2,3", "1,2,3;",
        "1,2,3;-", "1,2,3;4", "1,2,3;4,", "1,2,3;4,5", "1,2,3;4,5,", "1,2,3;4,5,6", "1,2,3;4,5,6;"};
    private static final String[] FULL_NUMBERS = {
        "1234", "-1234", "0000", "1,1234", "1,-1234", "1,2,1234", "1,2,-1234", "1,2,3;1234", "1,2,3;4,5,-1234"};

    public static void main(String[] args) {
        Checks.run(TextEdgesTest::atMost120Bytes);
        Checks.run(TextEdgesTest::allBytes);
        Checks.run(TextEdgesTest::clearTextOfNothing);
        Checks.run(TextEdgesTest::clearTextOfAll);
        Checks.run(TextEdgesTest::noSamples);
        Checks.run(TextEdgesTest::twentySamples);
        Checks.run(TextEdgesTest::fullText);
        Checks.run(TextEdgesTest::endsTooEarly);
        Checks.run(TextEdgesTest::fifthDigit);
        Checks.run(TextEdgesTest::cannotStand);
        Checks.run(TextEdgesTest::firstByteThatCannotStand);
        Checks.run(TextEdgesTest::optionalMinus);
        Checks.run(TextEdgesTest::oneToFourDigits);
        Checks.run(TextEdgesTest::noSpaces);
        Checks.run(TextEdgesTest::rangeOfY);
        Checks.run(TextEdgesTest::rangeOfU);
        Checks.run(TextEdgesTest::rangeOfZ);
        Checks.run(TextEdgesTest::firstSampleOutOfRange);
        Checks.run(TextEdgesTest::syntaxErrorBeforeRange);
        Checks.run(TextEdgesTest::outOfRangeChangesNothing);
        Checks.run(TextEdgesTest::syntaxErrorChangesNothing);
        Checks.run(TextEdgesTest::textStays);
        Checks.run(TextEdgesTest::undoableIfAllAreTaken);
        Checks.run(TextEdgesTest::oneAfterTheOther);
        Checks.end("TextEdgesTest");
    }

    private static SelfTuner with(String text) {
        SelfTuner x = new SelfTuner();
        Checks.write(x, text);
        return x;
    }

    private static void due(String text, int want) {
        Checks.due("replay() of " + text, with(text).replay(), want);
    }

    private static void atMost120Bytes() {
        Checks.sentence("The text has at most 120 bytes");
        SelfTuner x = new SelfTuner();
        for (int i = 1; i <= 120; i++) {
            Checks.due("append(57)", x.append(57), i);
        }
        Checks.dueState("append(57) to 120 bytes", x, () -> x.append(57));
        Checks.dueState("append(57) to 120 bytes once more", x, () -> x.append(57));
        Checks.due("clearText()", x.clearText(), 120);
        for (int i = 1; i <= 120; i++) {
            Checks.due("append(57) again", x.append(57), i);
        }
        Checks.dueState("append(57) to 120 bytes again", x, () -> x.append(57));
    }

    private static void allBytes() {
        Checks.sentence("append, value: the byte, 0 to 127");
        for (int b = 0; b <= 127; b++) {
            SelfTuner x = new SelfTuner();
            Checks.due("append(" + b + ")", x.append(b), 1);
            boolean begins = b == '-' || b >= '0' && b <= '9';
            Checks.due("replay() of the byte " + b, x.replay(), begins ? -11 : -10);
        }
    }

    private static void clearTextOfNothing() {
        Checks.sentence("clearText returns the length that it had: 0");
        SelfTuner x = new SelfTuner();
        Checks.due("clearText()", x.clearText(), 0);
        Checks.due("clearText() again", x.clearText(), 0);
        Checks.due("append(48)", x.append(48), 1);
        Checks.due("clearText() of one byte", x.clearText(), 1);
        Twins.dueNoTrace("append(48) and clearText()", SelfTuner::new, y -> y.append(48) + y.clearText());
    }

    private static void clearTextOfAll() {
        Checks.sentence("clearText empties the sample text: 120 bytes");
        SelfTuner x = Twins.full();
        Checks.due("clearText()", x.clearText(), 120);
        Checks.due("replay() behind it", x.replay(), 0);
        Checks.due("append(59)", x.append(59), 1);
        Checks.due("replay() of it", x.replay(), -10);
    }

    private static void noSamples() {
        Checks.sentence("there can be no samples");
        SelfTuner x = new SelfTuner();
        Checks.due("replay()", x.replay(), 0);
        Checks.due("count(0)", x.count(0), 0);
        Checks.due("it was successful, so a state was saved: undo()", x.undo(), 0);
        Twins.dueSame("replay() and undo()", () -> {
            SelfTuner y = new SelfTuner();
            y.replay();
            y.undo();
            return y;
        }, SelfTuner::new);
    }

    private static void twentySamples() {
        Checks.sentence("replay returns the number of samples of the text");
        StringBuilder text = new StringBuilder();
        for (int i = 1; i <= 20; i++) {
            text.append("1,2,9;");
            due(text.toString(), i);
            SelfTuner x = with(text.toString());
            x.replay();
            Checks.due("count(0) behind " + i + " samples", x.count(0), i);
        }
        Checks.due("the shortest samples fill the text", text.length(), 120);
    }

    private static void fullText() {
        Checks.sentence("The text has at most 120 bytes: a full one is read to its end");
        String longest = "-1234,-1987,-3999;";
        String six = longest + longest + longest + longest + longest + longest;
        due(six + "-1,2,99;1,2;", -10 - 119);
        due(six + "1,-2,999;12,", -10 - 120);
        due(six + "0,0,0;9,8,7;", 8);
        due(six + "0,0,0;9,8,77", -10 - 120);
        due(six + "0,0,0;9,8,7,", -10 - 119);
        due(six + "0,0,0;9,87;;", -10 - 118);
        due(six + "0,0,0;9,8,-;", -10 - 119);
    }

    private static void endsTooEarly() {
        Checks.sentence("... or the length of the text if the text ends too early");
        String sample = "-12,345,-1000;";
        String text = sample + sample;
        for (int length = 0; length <= text.length(); length++) {
            boolean ends = length % sample.length() == 0;
            due(text.substring(0, length), ends ? length / sample.length() : -10 - length);
        }
        for (String beginning : BEGINNINGS) {
            boolean ends = beginning.isEmpty() || beginning.endsWith(";");
            due(beginning, ends ? beginning.length() / 6 : -10 - beginning.length());
        }
    }

    private static void fifthDigit() {
        Checks.sentence("the index of the first byte that cannot stand where it stands (a fifth digit, too)");
        for (String number : FULL_NUMBERS) {
            due(number, -10 - number.length());
            for (char digit = '0'; digit <= '9'; digit++) {
                due(number + digit, -10 - number.length());
                due(number + digit + ",2,3;", -10 - number.length());
                due(number + digit + digit, -10 - number.length());
            }
        }
    }

    /** What can follow a beginning, told once more: by its last byte and the number of commas behind the last ';'. */
    private static String mayFollow(String beginning) {
        int start = beginning.lastIndexOf(';') + 1;
        String sample = beginning.substring(start);
        int commas = sample.length() - sample.replace(",", "").length();
        if (sample.isEmpty() || sample.endsWith(",")) {
            return "-0123456789";
        }
        if (sample.endsWith("-")) {
            return "0123456789";
        }
        String number = sample.substring(sample.lastIndexOf(',') + 1).replace("-", "");
        return (number.length() < 4 ? "0123456789" : "") + (commas < 2 ? "," : ";");
    }

    private static void cannotStand() {
        Checks.sentence("the index of the first byte that cannot stand where it stands");
        for (String[] beginnings : new String[][] {BEGINNINGS, FULL_NUMBERS}) {
            for (String beginning : beginnings) {
                String right = mayFollow(beginning);
                for (char b = 0; b < 128; b++) {
                    if (right.indexOf(b) < 0) {
                        due(beginning + b, -10 - beginning.length());
                        due(beginning + b + "1,2,3;", -10 - beginning.length());
                    } else if (b != ';') {
                        due(beginning + b, -10 - beginning.length() - 1);
                    }
                }
            }
        }
    }

    private static void firstByteThatCannotStand() {
        Checks.sentence("the first byte that cannot stand: of several wrong ones");
        due("x,y,z;", -10);
        due("1,x,3;4,y,6;", -12);
        due("1,2,3;4,5,6;7,8,9;;;", -28);
        due("1,2,3;,", -16);
        due("--", -11);
    }

    private static void optionalMinus() {
        Checks.sentence("a number is an optional minus sign and one to four digits");
        due("-1,-2,-3;", 1);
        due("-0,-00,-0000;", 1);
        due("-2000,-2000,-4000;", 1);
        due("--1,2,3;", -11);
        due("1,--2,3;", -13);
        due("1,2,--3;", -15);
        due("1-,2,3;", -11);
        due("1,2,3-;", -15);
        SelfTuner x = with("-3,-4,-500;");
        x.replay();
        SelfTuner y = new SelfTuner();
        y.sample(-3, -4, -500);
        Checks.due("parameter(0)", x.parameter(0), y.parameter(0));
        Checks.due("parameter(1)", x.parameter(1), y.parameter(1));
        Checks.due("parameter(2)", x.parameter(2), y.parameter(2));
    }

    private static void oneToFourDigits() {
        Checks.sentence("one to four digits");
        due(",2,3;", -10);
        due("1,,3;", -12);
        due("1,2,;", -14);
        due("-,2,3;", -11);
        due("1,2,-;", -15);
        due("0,0,0;", 1);
        due("0000,0000,0000;", 1);
        due("0001,0020,0300;", 1);
        due("00001,2,3;", -14);
        due("1,00001,3;", -16);
        due("1,2,00001;", -18);
        SelfTuner x = with("0001,0020,0300;1999,1002,3987;");
        x.replay();
        SelfTuner y = new SelfTuner();
        y.sample(1, 20, 300);
        y.sample(1999, 1002, 3987);
        Checks.due("parameter(0)", x.parameter(0), y.parameter(0));
        Checks.due("covariance(0, 1)", x.covariance(0, 1), y.covariance(0, 1));
        Checks.due("determinant()", x.determinant(), y.determinant());
    }

    private static void noSpaces() {
        Checks.sentence("there are no spaces");
        due(" ", -10);
        due(" 1,2,3;", -10);
        due("1 ,2,3;", -11);
        due("1, 2,3;", -12);
        due("1,2,3 ;", -15);
        due("1,2,3; ", -16);
        due("1,2,3;\n", -16);
        due("- 1,2,3;", -11);
    }

    private static void dueEnds(String before, String behind, int most) {
        due(before + most + behind, 1);
        due(before + (most + 1) + behind, -1000);
        due(before + (-most) + behind, 1);
        due(before + (-most - 1) + behind, -1000);
        due(before + 9999 + behind, -1000);
        due(before + -9999 + behind, -1000);
    }

    private static void rangeOfY() {
        Checks.sentence("replay: y -2000 to 2000");
        dueEnds("", ",0,0;", 2000);
    }

    private static void rangeOfU() {
        Checks.sentence("replay: u -2000 to 2000");
        dueEnds("0,", ",0;", 2000);
    }

    private static void rangeOfZ() {
        Checks.sentence("replay: z -4000 to 4000");
        dueEnds("0,0,", ";", 4000);
    }

    private static void firstSampleOutOfRange() {
        Checks.sentence("-1000 minus the index of the first sample (from 0) with a number out of range");
        for (int wrong = 0; wrong < 17; wrong++) {
            StringBuilder text = new StringBuilder();
            for (int i = 0; i < 17; i++) {
                text.append(i == wrong ? "2001,0,0;" : "0,2,3;");
            }
            due(text.toString(), -1000 - wrong);
        }
        due("2001,0,0;0,2001,0;0,0,4001;", -1000);
        due("0,0,0;0,2001,0;2001,0,0;", -1001);
        due("0,0,0;0,0,0;0,0,-4001;0,-2001,0;", -1002);
    }

    private static void syntaxErrorBeforeRange() {
        Checks.sentence("-10 minus the syntax error position if there is a syntax error, whatever the numbers are");
        due("2001,0,0;1", -20);
        due("2001,0,0", -18);
        due("9999,0,x", -17);
        due("0,0,4001;0,0,0;;", -25);
    }

    private static void outOfRangeChangesNothing() {
        Checks.sentence("If a number of one of them is out of range, nothing is changed");
        for (String wrong : new String[] {"2001,0,0;", "0,-2001,0;", "0,0,4001;"}) {
            dueNothingChanged("5,6,700;-9,8,-999;" + wrong, -1002);
            dueNothingChanged(wrong + "5,6,700;-9,8,-999;", -1000);
        }
    }

    private static void syntaxErrorChangesNothing() {
        Checks.sentence("replay of a text with a syntax error changes nothing");
        dueNothingChanged("5,6,700;-9,8,-999;x", -10 - 18);
        dueNothingChanged("5,6,700;-9,8,-999", -10 - 17);
        dueNothingChanged("x5,6,700;-9,8,-999;", -10);
    }

    private static void dueNothingChanged(String text, int want) {
        Supplier<SelfTuner> busy = () -> {
            SelfTuner x = Twins.busy();
            x.clearText();
            Checks.write(x, text);
            return x;
        };
        Twins.dueNoTrace("replay() of " + text, busy, x -> {
            int answer = x.replay();
            Checks.due("replay() of " + text, answer, want);
            return answer;
        });
        Twins.dueNoTrace("replay() of " + text, () -> with(text), SelfTuner::replay);
    }

    private static void textStays() {
        Checks.sentence("The text stays as it is");
        for (String text : new String[] {"", "1,2,3;", "1,2,3;x", "1,2,3;4", "2001,0,0;"}) {
            SelfTuner x = with(text);
            int answer = x.replay();
            Checks.due("replay() of " + text + " again", x.replay(), answer);
            Checks.due("append(49)", x.append(49), text.length() + 1);
            Checks.due("clearText()", x.clearText(), text.length() + 1);
        }
    }

    private static void undoableIfAllAreTaken() {
        Checks.sentence("Undoable, if all are taken");
        for (String text : new String[] {"", "1,2,3;", "0,0,0;9,8,-700;"}) {
            SelfTuner x = with(text);
            x.replay();
            Checks.due("undo() behind replay() of " + text, x.undo(), 0);
            Checks.due("count(0)", x.count(0), 0);
        }
        for (String text : new String[] {"x", "1,2,3;4", "1,2,3;2001,0,0;", "0,0,4001;"}) {
            SelfTuner x = with(text);
            x.replay();
            Checks.dueState("undo() behind replay() of " + text, x, x::undo);
        }
    }

    private static void oneAfterTheOther() {
        Checks.sentence("Lets the estimator take the samples of the text one after the other");
        SelfTuner x = Twins.full();
        SelfTuner y = Twins.full();
        Checks.due("replay()", x.replay(), 12);
        y.sample(12, 34, 56);
        y.sample(-7, -8, -999);
        for (int i = 0; i < 10; i++) {
            y.sample(1, 2, -1000);
        }
        for (int i = 0; i < 9; i++) {
            Checks.due("P " + i, x.covariance(i / 3, i % 3), y.covariance(i / 3, i % 3));
            Checks.due("parameter(" + i / 3 + ")", x.parameter(i / 3), y.parameter(i / 3));
            Checks.due("count(" + i % 5 + ")", x.count(i % 5), y.count(i % 5));
        }
        Checks.due("determinant()", x.determinant(), y.determinant());
        // All samples of one call are one step back.
        Checks.due("undo()", x.undo(), 3);
        Twins.dueSame("replay() and undo()", () -> {
            SelfTuner z = with("5,6,7;8,9,10;");
            z.replay();
            z.undo();
            return z;
        }, () -> with("5,6,7;8,9,10;"));
    }
}
