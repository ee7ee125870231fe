import java.util.ArrayList;
import java.util.List;

/** All that can be read of an object behind some calls, as one text. No object is asked more than 512 calls for it. */
final class Whole {
    private static final int MOST_CALLS = 512;

    /** One more than there can be. */
    private static final int MOST_UNDOS = 11;

    private final List<String> before;
    private final StringBuilder text = new StringBuilder();
    private LeapTables object;
    private int asked;

    private Whole(List<String> before) {
        this.before = before;
    }

    static String look(List<String> before) {
        Whole whole = new Whole(before);
        whole.tables();
        whole.queries();
        whole.rules();
        whole.orders();
        whole.undos();
        return whole.text.toString();
    }

    /** The first line in which two looks are unlike; empty if they are alike. */
    static String unlike(String one, String other) {
        String[] lines = one.split("\n");
        String[] others = other.split("\n");
        for (int i = 0; i < Math.min(lines.length, others.length); i++) {
            if (!lines[i].equals(others[i])) {
                return lines[i] + " and " + others[i];
            }
        }
        return lines.length == others.length ? "" : lines.length + " and " + others.length + " lines";
    }

    private String ask(String call) {
        if (object == null || asked >= MOST_CALLS) {
            begin();
        }
        asked++;
        String answer = Script.answer(object, call.split(" "));
        text.append(call).append(" = ").append(answer).append('\n');
        return answer;
    }

    private void begin() {
        object = new LeapTables();
        for (String call : before) {
            Script.answer(object, call.split(" "));
        }
        asked = before.size();
    }

    private void tables() {
        ask("tableCount");
        for (int table = 0; table < 6; table++) {
            ask("columns " + table);
            ask("factCount " + table);
            ask("layerOf " + table);
            String rows = ask("rowCount " + table);
            for (int row = 0; !rows.startsWith("Index") && row < Math.min(70, Integer.parseInt(rows)); row++) {
                oneRow(table, row);
            }
        }
    }

    private void oneRow(int table, int row) {
        StringBuilder told = new StringBuilder();
        for (int column = 0; column < 3; column++) {
            String value = ask("rowAt " + table + " " + row + " " + column);
            told.append(' ').append(value.startsWith("Index") ? "0" : value);
        }
        ask("isFact " + table + told);
        ask("reasons " + table + told);
    }

    private void queries() {
        for (int query = 0; query < 4; query++) {
            for (String call : List.of("atomCount ", "answers ", "leaps ", "isTree ", "cover ", "bound ")) {
                ask(call + query);
            }
            for (int place = 0; place < 5; place++) {
                ask("idleRows " + query + " " + place);
                ask("groups " + query + " " + place);
            }
            for (int answer = 0; answer < 4; answer++) {
                for (int variable = 0; variable < 4; variable++) {
                    ask("answerAt " + query + " " + answer + " " + variable);
                }
            }
        }
    }

    private void rules() {
        for (String call : List.of("ruleCount", "rounds", "meanReasons", "factShare", "errors", "checksum")) {
            ask(call);
        }
        for (int rule = 0; rule < 6; rule++) {
            ask("isIdle " + rule);
            ask("firings " + rule);
        }
    }

    /** Only a change tells an order: it is asked of an object that is asked nothing behind it. */
    private void orders() {
        begin();
        for (int query = 0; query < 4; query++) {
            ask("setOrder " + query + " 123");
        }
    }

    private void undos() {
        begin();
        List<String> told = new ArrayList<>(List.of("tableCount", "ruleCount", "rounds", "meanReasons", "checksum"));
        for (int query = 0; query < 4; query++) {
            told.add("leaps " + query);
            told.add("bound " + query);
        }
        for (int table = 0; table < 3; table++) {
            told.add("factCount " + table);
            told.add("layerOf " + table);
        }
        for (int n = 0; n < MOST_UNDOS && !ask("undo").equals("-1"); n++) {
            told.forEach(this::ask);
        }
    }
}
