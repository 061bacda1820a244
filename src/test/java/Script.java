import java.util.ArrayList;
import java.util.List;

/**
 * A test of one sentence of the document: rows of calls on a new object, each with what is due. Behind every refused
 * row all that can be asked of the object must be what it was before, and stay so under further calls.
 */
final class Script {
    private static final int MOST_CALLS = 512;

    private Script() {
    }

    /** A sentence of the promise's own section. */
    static void promise(int promise, String sentence, String... rows) {
        Document.quote("Promise " + promise, sentence);
        run("promise " + promise + ", '" + sentence + "'", rows);
    }

    /** A sentence of the section 'Terms', and the promise whose calls show it. */
    static void terms(int promise, String sentence, String... rows) {
        Document.quote("Terms", sentence);
        run("promise " + promise + ", terms '" + sentence + "'", rows);
    }

    /** A sentence of the section 'What it is'. */
    static void whole(String sentence, String... rows) {
        Document.quote("What it is", sentence);
        run("'" + sentence + "'", rows);
    }

    /** The row that often; a # in it is the number of the turn, counted from 0. */
    static String times(int turns, String row) {
        return times(0, turns, row);
    }

    static String times(int from, int to, String row) {
        StringBuilder rows = new StringBuilder();
        for (int i = from; i < to; i++) {
            rows.append(row.replace("#", String.valueOf(i))).append('\n');
        }
        return rows.toString();
    }

    static void run(String name, String... texts) {
        List<Row> rows = Row.of(texts);
        Check.that(name + ": at most 512 calls", rows.size() <= MOST_CALLS);
        CardPort x = new CardPort();
        for (int i = 0; i < rows.size(); i++) {
            Row row = rows.get(i);
            String said = row.saidBy(x);
            Check.that(name + ": call " + i + ", " + row.call + " answered " + said + ", due is " + row.due,
                    row.isAsDue(said));
            if (row.isRefused()) {
                changesNothing(name + ": call " + i + ", " + row.call, rows.subList(0, i), row);
            }
        }
    }

    private static CardPort played(List<Row> rows) {
        CardPort x = new CardPort();
        for (Row row : rows) {
            row.saidBy(x);
        }
        return x;
    }

    private static List<String> said(CardPort x, List<Row> rows) {
        List<String> all = new ArrayList<>();
        for (Row row : rows) {
            all.add(row.call + " " + row.saidBy(x));
        }
        return all;
    }

    private static void changesNothing(String name, List<Row> before, Row refused) {
        List<Row> questions = Questions.all(played(before));
        // Each object is asked twice, and a full network has more questions than the 512 calls let.
        int room = (MOST_CALLS - before.size() - 1) / 2;
        Check.that(name + ": there is room to ask", room > 0);
        for (int from = 0; room > 0 && from < questions.size(); from += room) {
            List<Row> some = questions.subList(from, Math.min(from + room, questions.size()));
            CardPort x = played(before);
            List<String> was = said(x, some);
            refused.saidBy(x);
            alike(name + " changes no answer", said(x, some), was);
        }
        List<Row> later = Questions.later(played(before));
        CardPort plain = played(before);
        CardPort tried = played(before);
        refused.saidBy(tried);
        Check.that(name + ": there is room to go on", before.size() + 1 + later.size() <= MOST_CALLS);
        alike(name + " changes no later answer", said(tried, later), said(plain, later));
    }

    private static void alike(String name, List<String> got, List<String> due) {
        for (int i = 0; i < due.size(); i++) {
            if (!got.get(i).equals(due.get(i))) {
                Check.that(name + ": " + got.get(i) + ", due is " + due.get(i), false);
                return;
            }
        }
        Check.that(name, true);
    }
}
