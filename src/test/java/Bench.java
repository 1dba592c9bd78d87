import java.io.IOException;
import java.nio.file.Files;
import java.nio.file.Path;
import java.util.ArrayList;
import java.util.Arrays;
import java.util.LinkedHashMap;
import java.util.List;
import java.util.Map;

/**
 * What the tests by sentence share: the office that is looked at, tables laid out from text, and the book of which
 * sentence of the document each check stands for. The book is held against the document itself in the end.
 */
abstract class Bench {
    static final int COUNT = 1;
    static final int AMOUNT = 2;
    static final int SHARE = 3;
    static final int ZERO = 4;
    static final int LOWEST = Integer.MIN_VALUE;
    static final int HIGHEST = Integer.MAX_VALUE;

    static CellKeeper x = new CellKeeper();

    private static final List<String> QUOTES = new ArrayList<>();
    private static String sentence = "";
    private static int looked = 0;
    private static int lookedBefore = 0;
    private static int wrong = 0;

    interface OfTable { long at(int table); }

    interface OfPlace { long at(int table, int row, int column); }

    interface Call { long now(); }

    // ---- checks

    /** From here on the checks stand for these words of the document. */
    static void says(String words) {
        if (!sentence.isEmpty() && looked == lookedBefore) fail("nothing was looked at");
        sentence = words;
        lookedBefore = looked;
        QUOTES.add(words);
    }

    private static void fail(String what) {
        wrong++;
        System.out.println("\"" + sentence + "\": " + what);
    }

    static void due(String what, long got, long want) {
        looked++;
        if (got != want) fail(what + " answered " + got + ", due is " + want);
    }

    /** An answer together with the status that the call left. */
    static void due(String what, long got, long want, int status) {
        due(what, got, want);
        due(what + ", status", x.status(), status);
    }

    static void same(String what, String got, String want) {
        looked++;
        if (!got.equals(want)) fail(what + " is\n  " + got + "\ndue is\n  " + want);
    }

    static void yes(String what, boolean got) { due(what, got ? 1 : 0, 1, 0); }

    static void no(String what, boolean got, int status) { due(what, got ? 1 : 0, 0, status); }

    static void none(String what, long got, int status) { due(what, got, -1, status); }

    /** A refused answer is -1, of a boolean one too. */
    static long bit(boolean b) { return b ? 1 : -1; }

    /** A call that is refused: NONE or false, with its status, and all that can be asked for stays. */
    static void refused(String what, Call call, int status) {
        String before = state();
        none(what, call.now(), status);
        same(what + " changes something: it", state(), before);
    }

    // ---- every call that has a status, as one of a table and of a place

    static Map<String, OfTable> tableCalls() {
        Map<String, OfTable> calls = new LinkedHashMap<>();
        calls.put("close", t -> bit(x.close(t)));
        calls.put("rule", t -> bit(x.rule(t, 0, 3)));
        calls.put("block", t -> x.block(t, 0, 0));
        calls.put("sound", t -> x.sound(t, 0));
        calls.put("sum", t -> x.sum(t, 0));
        calls.put("tear", t -> bit(x.tear(t, 0, 1)));
        calls.put("unsafe", t -> x.unsafe(t));
        calls.put("plan", t -> x.plan(t));
        calls.put("fewest", t -> x.fewest(t));
        calls.put("cost", t -> x.cost(t));
        calls.put("round", t -> x.round(t, 5));
        calls.put("give", t -> x.give(t));
        placeCalls().forEach((name, call) -> calls.put(name, t -> call.at(t, 0, 0)));
        calls.put("total", t -> x.total(t, 0, 0));
        return calls;
    }

    static Map<String, OfPlace> placeCalls() {
        Map<String, OfPlace> calls = new LinkedHashMap<>();
        calls.put("cell", (t, i, j) -> bit(x.cell(t, i, j, COUNT, 5)));
        calls.put("kind", (t, i, j) -> x.kind(t, i, j));
        filledCalls().forEach(calls::put);
        return calls;
    }

    /** Those that want something to be there. */
    static Map<String, OfPlace> filledCalls() {
        Map<String, OfPlace> calls = new LinkedHashMap<>();
        calls.put("giver", (t, i, j) -> bit(x.giver(t, i, j, 5)));
        calls.put("clear", (t, i, j) -> bit(x.clear(t, i, j)));
        calls.put("number", (t, i, j) -> x.number(t, i, j));
        calls.put("givers", (t, i, j) -> x.givers(t, i, j));
        calls.put("part", (t, i, j) -> x.part(t, i, j, 0));
        calls.put("hand", (t, i, j) -> bit(x.hand(t, i, j, true)));
        calls.put("keep", (t, i, j) -> bit(x.keep(t, i, j, true)));
        soundCalls().forEach(calls::put);
        return calls;
    }

    /** Those that want a cell in a sound row. */
    static Map<String, OfPlace> soundCalls() {
        Map<String, OfPlace> calls = new LinkedHashMap<>();
        calls.put("secret", (t, i, j) -> x.secret(t, i, j));
        calls.put("kept", (t, i, j) -> x.kept(t, i, j));
        calls.put("thousandths", (t, i, j) -> x.thousandths(t, i, j));
        calls.put("least", (t, i, j) -> x.least(t, i, j));
        calls.put("greatest", (t, i, j) -> x.greatest(t, i, j));
        calls.put("safe", (t, i, j) -> x.safe(t, i, j));
        calls.put("witness of the least", (t, i, j) -> x.witness(t, i, j, false));
        calls.put("witness of the greatest", (t, i, j) -> x.witness(t, i, j, true));
        return calls;
    }

    // ---- tables from text

    /**
     * A new object with table 0 open and filled. Words of a row: "." nothing, "m7" a mark, "z" a zero, "12" a count,
     * "s12" a share, "a" an amount, "a60+30" one with givers; before one of these "*" to be kept, "!" a secret by hand.
     */
    static void fresh(String... rows) {
        x = new CellKeeper();
        lay(0, rows);
    }

    /** The same with a threshold of 0, so that no count is a secret of its own. */
    static void calm(String... rows) {
        fresh(rows);
        yes("rule", x.rule(0, 0, 0));
    }

    static void lay(int table, String... rows) {
        yes("open", x.open(table, rows.length, rows[0].trim().split(" +").length));
        for (int i = 0; i < rows.length; i++) {
            String[] words = rows[i].trim().split(" +");
            for (int j = 0; j < words.length; j++) lay(table, i, j, words[j]);
        }
    }

    static void lay(int table, int row, int column, String word) {
        String what = word.replaceAll("[*!]", "");
        char sign = what.charAt(0);
        if (sign == '.') return;
        if (Character.isDigit(sign)) yes("count", x.cell(table, row, column, COUNT, Integer.parseInt(what)));
        if (sign == 'm') yes("mark", x.cell(table, row, column, 0, Integer.parseInt(what.substring(1))));
        if (sign == 's') yes("share", x.cell(table, row, column, SHARE, Integer.parseInt(what.substring(1))));
        if (sign == 'z') yes("zero", x.cell(table, row, column, ZERO, 0));
        if (sign == 'a') {
            yes("amount", x.cell(table, row, column, AMOUNT, 0));
            if (what.length() > 1)
                for (String part : what.substring(1).split("\\+")) yes("giver", x.giver(table, row, column, Integer.parseInt(part)));
        }
        if (word.contains("*")) yes("keep", x.keep(table, row, column, true));
        if (word.contains("!")) yes("hand", x.hand(table, row, column, true));
    }

    // ---- what table 0 and the leaves have, as text

    interface At { long of(int row, int column); }

    static String grid(int rows, int columns, At at) {
        StringBuilder text = new StringBuilder();
        for (int i = 0; i < rows; i++) {
            if (i > 0) text.append(" / ");
            for (int j = 0; j < columns; j++) text.append(j > 0 ? " " : "").append(at.of(i, j));
        }
        return text.toString();
    }

    private static int rowsIn(String want) { return want.split("/").length; }

    private static int columnsIn(String want) { return want.split("/")[0].trim().split(" +").length; }

    static void gridIs(String what, String want, At at) { same(what, grid(rowsIn(want), columnsIn(want), at), want); }

    static void seenIs(String want) { gridIs("seen", want, (i, j) -> x.seen(i, j)); }

    static void roundedIs(String want) { gridIs("rounded", want, (i, j) -> x.rounded(i, j)); }

    static void keptIs(String want) { gridIs("kept", want, (i, j) -> x.kept(0, i, j)); }

    static void giftIs(int k, String want) { gridIs("gift " + k, want, (i, j) -> x.gift(k, i, j)); }

    static void spanIs(int row, int column, long least, long greatest) {
        due("least of " + row + ", " + column, x.least(0, row, column), least, 0);
        due("greatest of " + row + ", " + column, x.greatest(0, row, column), greatest, 0);
    }

    /** A sign for each row, then one for each column. */
    static void cutIs(String rows, String columns) {
        StringBuilder text = new StringBuilder();
        for (int k = 0; k < rows.length(); k++) text.append(x.cut(true, k));
        text.append(' ');
        for (int k = 0; k < columns.length(); k++) text.append(x.cut(false, k));
        same("cut", text.toString(), rows + " " + columns);
    }

    /** All that can be asked for without a change, of all tables, leaves and gifts. */
    static String state() {
        StringBuilder text = new StringBuilder();
        for (int t = 0; t < 6; t++) tableState(text, t);
        text.append("seen ").append(grid(12, 12, (i, j) -> x.seen(i, j)));
        text.append("; rounded ").append(grid(12, 12, (i, j) -> x.rounded(i, j))).append("; cut ");
        for (int k = -1; k < 13; k++) text.append(x.cut(true, k)).append(x.cut(false, k)).append(' ');
        for (int k = 0; k < 16; k++) {
            int gift = k;
            text.append("; gift ").append(k).append(' ');
            if (x.gift(k, 0, 0) == -1) continue;
            text.append(grid(12, 12, (i, j) -> x.gift(gift, i, j)));
            for (int b = 0; b < k; b++) text.append(' ').append(x.agree(k, b));
        }
        return text.toString();
    }

    private static void tableState(StringBuilder text, int t) {
        text.append("table ").append(t).append(": ").append(x.cost(t)).append(' ').append(x.unsafe(t)).append("; ");
        if (x.status() != 0) return;
        for (int i = 0; i < 12 && x.sound(t, i) >= 0; i++) {
            text.append("row ").append(i).append(": ").append(x.sound(t, i)).append(' ').append(x.sum(t, i)).append("; ");
            for (int j = 0; j < 12; j++) {
                text.append(x.total(t, i, j)).append(' ').append(x.kind(t, i, j));
                if (x.status() == 2) break;
                text.append(' ').append(x.number(t, i, j)).append(' ').append(x.givers(t, i, j));
                for (int k = 0; k < 6; k++) text.append(' ').append(x.part(t, i, j, k));
                text.append(' ').append(x.secret(t, i, j)).append(' ').append(x.kept(t, i, j));
                text.append(' ').append(x.thousandths(t, i, j)).append(' ').append(x.safe(t, i, j));
                text.append(' ').append(x.least(t, i, j)).append(' ').append(x.greatest(t, i, j)).append("; ");
            }
        }
    }

    // ---- the book of sentences

    /** Words of the document between two headings, without the headings, fences and what stands in back quotes. */
    private static String wordsOf(String document, String from, String to) {
        StringBuilder text = new StringBuilder();
        boolean inside = false;
        for (String line : document.split("\n")) {
            if (line.startsWith(from)) inside = true;
            else if (inside && line.startsWith(to)) break;
            else if (inside && !line.startsWith("#") && !line.startsWith("```")) text.append(line).append(' ');
        }
        return plain(text.toString());
    }

    private static String plain(String text) { return text.replaceAll("`[^`]*`", "").replaceAll("\\s+", " ").trim(); }

    private static void holdAgainst(String document, String from, String to) {
        String text = wordsOf(document, from, to);
        boolean[] quoted = new boolean[text.length()];
        for (String quote : QUOTES) {
            String words = plain(quote);
            sentence = quote;
            if (!text.contains(words)) fail("no words of the document");
            for (int at = text.indexOf(words); at >= 0; at = text.indexOf(words, at + 1))
                Arrays.fill(quoted, at, at + words.length(), true);
        }
        StringBuilder left = new StringBuilder();
        for (int k = 0; k < quoted.length; k++) left.append(quoted[k] ? '|' : text.charAt(k));
        sentence = "the document from " + from;
        for (String part : left.toString().split("\\|+"))
            if (part.matches(".*[A-Za-z0-9].*")) fail("no test stands for: " + part.trim());
    }

    /** The end of a test: the words quoted must be all that the document has between two headings. */
    static void end(String name, String[] args, String from, String to) throws IOException {
        says("");
        QUOTES.remove(QUOTES.size() - 1);
        Path document = Path.of(args.length > 0 ? args[0] : ".").resolve("../shared/DOC.md");
        if (Files.exists(document)) holdAgainst(Files.readString(document), from, to);
        System.out.println(name + ": " + QUOTES.size() + " sentences, " + looked + " answers, " + wrong + " wrong");
        if (wrong != 0) System.exit(1);
    }
}
