import java.util.ArrayList;
import java.util.List;
import java.util.regex.Matcher;
import java.util.regex.Pattern;

/** A COURT's text, read by a table: in each state the TOKENS that can stand there, and where they lead. */
final class ModelText {
    private static final Pattern TOKEN = Pattern.compile("[0-9]+|.", Pattern.DOTALL);
    /** State, what can stand there, the state behind it; # is a NUMBER: more figures than two are none. */
    private static final String[][] TABLE = {
        {"law", "w", "seats"}, {"seats", "#", "comma"}, {"comma", ",", "turns"}, {"turns", "#", "lawEnd"},
        {"lawEnd", ";", "order"}, {"order", "o", "letters"}, {"letters", "[a-h]", "letters"},
        {"letters", ";", "people"}, {"people", "[p-t]", "name0"}, {"name0", "[a-h]", "name1"},
        {"name1", "[a-h]", "name2"}, {"name2", "[a-h]", "name3"}, {"name3", "[a-h]", "name4"},
        {"name1", "#", "mid"}, {"name2", "#", "mid"}, {"name3", "#", "mid"}, {"name4", "#", "mid"},
        {"mid", ",", "life"}, {"life", "#", "end"}, {"end", ";", "people"},
    };

    int fault, place, seats, turns;
    String order = "";
    final List<String[]> people = new ArrayList<>();
    private String[] one;

    ModelText(String tape) {
        String state = "law";
        Matcher m = TOKEN.matcher(tape);
        while (m.find()) {
            String next = next(state, m.group());
            int f = next == null ? 1 : take(state, m.group());
            if (f != 0) {
                fault = f;
                place = m.start();
                return;
            }
            state = next;
        }
        if (!state.equals("people")) {
            fault = 1;
            place = tape.length();
        }
        for (char c = 'a'; c <= 'h'; c++) {
            order += order.indexOf(c) < 0 ? "" + c : "";
        }
    }

    private static String next(String state, String token) {
        for (String[] line : TABLE) {
            if (line[0].equals(state) && token.matches(line[1].equals("#") ? "[0-9]{1,2}" : line[1])) {
                return line[2];
            }
        }
        return null;
    }

    private int take(String state, String token) {
        boolean isNumber = token.matches("[0-9]+");
        int v = isNumber ? Integer.parseInt(token) : -1;
        if (state.equals("seats")) {
            seats = v;
            return v >= 1 && v <= 4 ? 0 : 2;
        } else if (state.equals("turns")) {
            turns = v;
            return v <= 30 ? 0 : 2;
        } else if (state.equals("letters") && !token.equals(";")) {
            boolean twice = order.contains(token);
            order += token;
            return twice ? 2 : 0;
        } else if (state.equals("people")) {
            if (people.size() == 6) {
                return 3;
            }
            one = new String[] {token, "", "", ""};
            people.add(one);
        } else if (state.startsWith("name") && isNumber) {
            one[2] = token;
            return v >= 1 && v <= 30 ? 0 : 2;
        } else if (state.startsWith("name")) {
            one[1] += token;
        } else if (state.equals("life")) {
            one[3] = token;
            return v >= 1 && v <= 99 ? 0 : 2;
        }
        return 0;
    }
}
