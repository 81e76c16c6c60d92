import java.util.ArrayList;
import java.util.List;
import java.util.regex.Matcher;
import java.util.regex.Pattern;

/** The grammar of a garden's text for the model: all tokens first, then the statements. */
final class ModelText {
    private static final Pattern TOKEN = Pattern.compile(" *([a-z]+|[0-9]+|[^ ])");

    int error = 0;
    int errorPosition = -1;
    final List<Integer> numbers = new ArrayList<>();
    final List<Integer> rates = new ArrayList<>();
    final int[] hours = new int[24];

    private final List<String> tokens = new ArrayList<>();
    private final List<Integer> starts = new ArrayList<>();
    private int next = 0;

    /** Stops the reading at an error. */
    private static final class Stop extends Exception {
        private static final long serialVersionUID = 1;
    }

    ModelText(String text) {
        Matcher matcher = Pattern.compile(TOKEN.pattern(), Pattern.DOTALL).matcher(text);
        while (matcher.lookingAt()) {
            tokens.add(matcher.group(1));
            starts.add(matcher.start(1));
            matcher.region(matcher.end(), text.length());
        }
        tokens.add("");
        starts.add(text.length());
        try {
            read();
        } catch (Stop stop) {
            errorPosition = starts.get(next);
        }
    }

    private void read() throws Stop {
        word("garden");
        numbers.add(number(1, 100000));
        numbers.add(number(1, 24));
        numbers.add(number(0, 100));
        numbers.add(number(1, 100));
        word(";");
        do {
            word("period");
            rates.add(number(0, 200));
            word(";");
            if (rates.size() == 4 && tokens.get(next).equals("period")) {
                stop(-4);
            }
        } while (tokens.get(next).equals("period"));
        while (!tokens.get(next).isEmpty()) {
            word("hours");
            int first = number(0, 23);
            int end = number(first + 1, 24);
            int period = number(0, rates.size() - 1);
            word(";");
            for (int hour = first; hour < end; hour++) {
                hours[hour] = period;
            }
        }
    }

    private void stop(int code) throws Stop {
        error = code;
        throw new Stop();
    }

    private void word(String due) throws Stop {
        if (!tokens.get(next).equals(due)) {
            stop(-2);
        }
        next++;
    }

    private int number(int least, int greatest) throws Stop {
        String token = tokens.get(next);
        if (!token.matches("[0-9]+")) {
            stop(-2);
        }
        String digits = token.replaceFirst("^0+(?=.)", "");
        int value = digits.length() > 8 ? 99_999_999 : Integer.parseInt(digits);
        if (value < least || value > greatest) {
            stop(-3);
        }
        next++;
        return value;
    }
}
