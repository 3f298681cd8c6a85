/** Promises 26 to 28: the sample text. */
public final class TextTest {
    public static void main(String[] args) {
        Checks.run(TextTest::promise26Append);
        Checks.run(TextTest::promise27ClearText);
        Checks.run(TextTest::promise28Replay);
        Checks.run(TextTest::promise28SyntaxErrors);
        Checks.run(TextTest::promise28OutOfRange);
        Checks.run(TextTest::promise28FullText);
        Checks.end("TextTest");
    }

    private static void promise26Append() {
        SelfTuner x = new SelfTuner();
        Checks.due("append(0)", x.append(0), 1);
        Checks.due("append(127)", x.append(127), 2);
        Checks.dueArgument("append(-1)", x, () -> x.append(-1));
        Checks.dueArgument("append(128)", x, () -> x.append(128));
        Checks.dueArgument("append(MIN)", x, () -> x.append(Integer.MIN_VALUE));
        for (int i = 3; i <= 120; i++) {
            Checks.due("append(48)", x.append(48), i);
        }
        Checks.dueState("append(48) to a full text", x, () -> x.append(48));
        Checks.dueArgument("append(128) to a full text", x, () -> x.append(128));
        Checks.dueState("append is not undoable: undo()", x, x::undo);
        Checks.due("clearText()", x.clearText(), 120);
        Checks.due("append(48) to an emptied text", x.append(48), 1);
    }

    private static void promise27ClearText() {
        SelfTuner x = new SelfTuner();
        Checks.due("clearText() of nothing", x.clearText(), 0);
        Checks.write(x, "1,2,3;4");
        Checks.due("clearText()", x.clearText(), 7);
        Checks.due("clearText() once more", x.clearText(), 0);
        Checks.due("nothing is replayed", x.replay(), 0);
        Checks.due("clearText is not undoable", x.undo(), 0);
    }

    private static SelfTuner replayed(String text, long want) {
        SelfTuner x = new SelfTuner();
        Checks.write(x, text);
        Checks.due("replay() of " + text, x.replay(), want);
        return x;
    }

    private static void promise28Replay() {
        SelfTuner x = replayed("0,10,5;-7,0020,-3999;2000,-2000,4000;-0,0,-0;", 4);
        SelfTuner y = new SelfTuner();
        y.sample(0, 10, 5);
        y.sample(-7, 20, -3999);
        y.sample(2000, -2000, 4000);
        y.sample(0, 0, 0);
        for (int i = 0; i < 3; i++) {
            Checks.due("the samples were taken in turn", x.parameter(i), y.parameter(i));
            Checks.due("P of them", x.covariance(i, 2), y.covariance(i, 2));
        }
        Checks.due("count(0)", x.count(0), 4);
        Checks.due("determinant()", x.determinant(), y.determinant());
        Checks.due("the text stays", x.replay(), 4);
        Checks.due("one state for each replay: undo()", x.undo(), 1);
        Checks.due("four samples are left", x.count(0), 4);
        Checks.due("undo() once more", x.undo(), 0);
        Checks.due("none is left", x.count(0), 0);
        Checks.due("undo leaves the text alone", x.clearText(), 45);
        Checks.dueUndoable("replay() of nothing", x, x::replay);
        Checks.write(x, "5,6,7;");
        Checks.dueUndoable("replay()", x, x::replay);
    }

    private static void dueSyntaxError(String text, int position) {
        SelfTuner x = new SelfTuner();
        Checks.write(x, text);
        long before = x.digest();
        Checks.due("replay() of " + text, x.replay(), -10 - position);
        Checks.due("digest() behind it", x.digest(), before);
        Checks.dueState("nothing is saved: undo()", x, x::undo);
        Checks.due("the text stays", x.clearText(), text.length());
    }

    private static void promise28SyntaxErrors() {
        dueSyntaxError("1", 1);
        dueSyntaxError("-", 1);
        dueSyntaxError("1,", 2);
        dueSyntaxError("1,2", 3);
        dueSyntaxError("1,2,", 4);
        dueSyntaxError("1,2,3", 5);
        dueSyntaxError("1,2,3333", 8);
        dueSyntaxError("1,2,3;-", 7);
        dueSyntaxError("1,2,3;4", 7);
        dueSyntaxError(";", 0);
        dueSyntaxError(",", 0);
        dueSyntaxError(" 1,2,3;", 0);
        dueSyntaxError("1, 2,3;", 2);
        dueSyntaxError("1,2,3; ", 6);
        dueSyntaxError("1,2,3;;", 6);
        dueSyntaxError("1;2,3;", 1);
        dueSyntaxError("1,2;3;", 3);
        dueSyntaxError("1,2,3,", 5);
        dueSyntaxError("1,,3;", 2);
        dueSyntaxError("12345,2,3;", 4);
        dueSyntaxError("-12345,2,3;", 5);
        dueSyntaxError("00001,2,3;", 4);
        dueSyntaxError("--1,2,3;", 1);
        dueSyntaxError("1-,2,3;", 1);
        dueSyntaxError("-,2,3;", 1);
        dueSyntaxError("+1,2,3;", 0);
        dueSyntaxError("1,2,x", 4);
        dueSyntaxError("/,2,3;", 0);
        dueSyntaxError(":,2,3;", 0);
        dueSyntaxError("1,2,3\n", 5);
        dueSyntaxError("1,2,3;\u0000", 6);
        dueSyntaxError("2001,0,0;1", 10);
        dueSyntaxError("9999,9999,9999;1,2,3", 20);
    }

    private static void dueOutside(String text, int sample) {
        SelfTuner x = replayed(text, -1000 - sample);
        Checks.due("nothing is changed", x.count(0), 0);
        Checks.dueState("nothing is saved: undo()", x, x::undo);
        Checks.due("the text stays", x.clearText(), text.length());
    }

    private static void promise28OutOfRange() {
        dueOutside("2001,0,0;", 0);
        dueOutside("-2001,0,0;", 0);
        dueOutside("0,2001,0;", 0);
        dueOutside("0,-2001,0;", 0);
        dueOutside("0,0,4001;", 0);
        dueOutside("0,0,-4001;", 0);
        dueOutside("2000,2000,4000;-2000,-2000,-4000;0,0,9999;0,9999,0;", 2);
        replayed("2000,2000,4000;-2000,-2000,-4000;", 2);
    }

    private static void promise28FullText() {
        SelfTuner x = new SelfTuner();
        for (int i = 0; i < 20; i++) {
            Checks.write(x, "1,2,9;");
        }
        Checks.due("twenty samples", x.replay(), 20);
        Checks.due("count(0)", x.count(0), 20);
        x.clearText();
        for (int i = 0; i < 19; i++) {
            Checks.write(x, "1,2,9;");
        }
        Checks.write(x, "1,2,99");
        Checks.due("a full text that ends too early", x.replay(), -130);
        x.clearText();
        for (int i = 0; i < 5; i++) {
            Checks.write(x, "-1000,-2000,-4000;-12,3,45;");
            if (i == 3) {
                break;
            }
        }
        Checks.due("eight samples", x.replay(), 8);
        x.clearText();
        Checks.write(x, "3,4,5;");
        Checks.due("a shorter text behind a longer one", x.replay(), 1);
    }
}
