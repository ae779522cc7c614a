import java.util.Arrays;
import java.util.List;
import java.util.function.Consumer;
import java.util.function.Function;

/** What all tests share: they tell each answer that is not as due, and end the program with 1 if there was one. */
abstract class Checks {
    private static final List<Consumer<Coder>> LATER = List.of(
        Later::outAndPlace, Later::points, Later::cells, Later::coding, Later::reading, Later::counts, Later::in);
    private static String sentence = "";
    private static int wrong = 0;

    /** Names the sentence of the document that the checks from here on stand for. */
    static void sentence(String text) {
        sentence = text;
    }

    static void due(String what, boolean got, boolean want) {
        tell(got == want, what, "" + got, "" + want);
    }

    static void due(String what, int got, int want) {
        tell(got == want, what, "" + got, "" + want);
    }

    static void due(String what, int[] got, int[] want) {
        tell(Arrays.equals(got, want), what, Arrays.toString(got), Arrays.toString(want));
    }

    /** A call has the answer that is due, and each later call answers what it would have answered without that call. */
    static void refused(String what, Consumer<Coder> before, Function<Coder, Object> call, Object answer) {
        for (Consumer<Coder> later : LATER) {
            Coder with = new Coder();
            Coder without = new Coder();
            before.accept(with);
            before.accept(without);
            Object got = call.apply(with);
            tell(got.equals(answer), what, "" + got, "" + answer);
            String due = without.answersOf(later);
            String answered = with.answersOf(later);
            int alike = Math.max(0, Arrays.mismatch(answered.toCharArray(), due.toCharArray()));
            tell(answered.equals(due), what + ", and later calls", from(alike, answered), from(alike, due));
        }
    }

    /** The points of the first symbols in the share by these counts of theirs. */
    static int[] shared(int order, int... counts) {
        Coder x = new Coder();
        for (int s = 0; s < counts.length; s++) {
            x.count(s, counts[s]);
        }
        due("share", x.share(order), true);
        return x.firstPoints(counts.length);
    }

    static int[] described(int order, int... points) {
        Coder x = Coder.withPoints(order, points);
        due("describe's answer", x.describe(), x.size());
        return x.outBytes();
    }

    static int[] encoded(int[] points, int... row) {
        Coder x = Coder.withPoints(5, points);
        x.appendBytes(row);
        due("encode's answer", x.encode(), x.size());
        return x.outBytes();
    }

    static boolean noneWrong() {
        return wrong == 0;
    }

    static void end() {
        System.out.println(wrong == 0 ? "all answers are as due" : wrong + " answers are not as due");
        if (wrong != 0) {
            System.exit(1);
        }
    }

    /** The call whose answer is the first that is another, and what comes behind it. */
    private static String from(int alike, String answers) {
        int call = answers.lastIndexOf(';', alike) + 1;
        return answers.substring(call, Math.min(answers.length(), call + 60)).trim();
    }

    private static void tell(boolean right, String what, String got, String want) {
        if (!right) {
            wrong++;
            System.out.println(sentence + "\n    " + what + ": answered " + got + ", due is " + want);
        }
    }
}
