import java.util.ArrayList;
import java.util.Arrays;
import java.util.List;
import java.util.TreeSet;

/**
 * Makes statements as trees, and writes each tree twice: as a text with brackets, blanks, comments and words that make no
 * difference, and as the plain form that is due. Every answer about the text must be the tree's; and about the text
 * broken at one of its tokens, the place and the depth up to there.
 */
final class SentenceTest {
    private static final int OR = 1;
    private static final int AND = 2;
    private static final int NOT = 3;
    private static final int COMPARED = 4;
    private static final int BARS = 5;
    private static final int SUM = 6;
    private static final int PRODUCT = 7;
    private static final int MINUS = 8;
    private static final int VALUE = 9;

    private static long seed = 7;

    private static StringBuilder text;
    private static TreeSet<String> names;
    private static int open;
    private static int most;
    /** Before each token: how long the text was, and the most that were open up to there. */
    private static List<int[]> cuts;

    public static void main(String[] args) {
        for (int i = 0; i < 20000; i++) {
            int kind = 1 + random(17);
            Node tree = statement(kind);
            text = new StringBuilder();
            names = new TreeSet<>();
            open = 0;
            most = 0;
            cuts = new ArrayList<>();
            tree.write(0);
            text.append(Arrays.asList("", ";", " ;", ";-- x", "\n").get(random(5)));
            if (text.length() <= 8000) {
                check(kind, text.toString(), tree.plain());
                checkBroken(text.toString());
            }
        }
        Checks.finish("SentenceTest");
    }

    private static void check(int kind, String sentence, String plain) {
        QueryReader x = new QueryReader();
        Checks.same("reading " + sentence, Checks.read(x, sentence), 0);
        Checks.same("kind of " + sentence, x.kind(), kind);
        Checks.same("length of " + sentence, x.length(), plain.length());
        Checks.same("mark of " + sentence, x.mark(), Checks.folded(plain));
        Checks.same("names of " + sentence, x.names(), names.size());
        Checks.same("depth of " + sentence, x.depth(), most);
        for (int i = 0; i < 3 && x.length() == plain.length(); i++) {
            int place = random(plain.length());
            Checks.same("letter " + place + " of " + sentence, x.letter(place), plain.charAt(place));
        }
        Checks.holds("again of " + sentence, x.again());
        if (most < 20) {
            Checks.same("reading again " + plain, x.read(), 0);
            Checks.same("mark of it again", x.mark(), Checks.folded(plain));
            Checks.same("names of it again", x.names(), names.size());
        }
    }

    /** The text up to one of its tokens, and there what begins no token: its depth is the most up to there. */
    private static void checkBroken(String sentence) {
        int[] cut = cuts.get(random(cuts.size()));
        String broken = sentence.substring(0, cut[0]) + " $((";
        QueryReader x = new QueryReader();
        Checks.same("reading " + broken, Checks.read(x, broken), cut[0] + 2);
        Checks.same("depth of " + broken, x.depth(), cut[1]);
        Checks.same("kind of " + broken, x.kind(), 0);
        Checks.same("names of " + broken, x.names(), 0);
    }

    private static int random(int below) {
        seed = seed * 6364136223846793005L + 1442695040888963407L;
        return (int) ((seed >>> 33) % below);
    }

    private static boolean perhaps() {
        return random(2) == 0;
    }

    private static void put(String token) {
        cuts.add(new int[] {text.length(), most});
        text.append(Arrays.asList(" ", " ", "\n", "\t ", " -- 'c\n", "  ").get(random(6))).append(token);
    }

    private static void count(int change) {
        open += change;
        most = Math.max(most, open);
    }

    // ---- trees ----

    private abstract static class Node {
        int level() {
            return VALUE;
        }

        /** Writes the text, in brackets when it must stand at least at this level and does not. */
        final void write(int least) {
            int brackets = level() < least ? 1 : 0;
            if (least > 0 && random(6) == 0) {
                brackets += 1 + random(2);
            }
            for (int i = 0; i < brackets; i++) {
                put("(");
                count(1);
            }
            body();
            for (int i = 0; i < brackets; i++) {
                put(")");
                count(-1);
            }
        }

        abstract void body();

        abstract String plain();
    }

    /** A token: how it stands in the text (perhaps not at all) and in the plain form. */
    private static final class Token extends Node {
        private final String written;
        private final String plain;
        private final int change;

        Token(String written, String plain, int change) {
            this.written = written;
            this.plain = plain;
            this.change = change;
        }

        @Override
        void body() {
            if (!written.isEmpty()) {
                put(written);
            }
            count(change);
            if (!plain.isEmpty() && (plain.charAt(0) == '_' || Character.isLowerCase(plain.charAt(0)))) {
                names.add(plain);
            }
        }

        @Override
        String plain() {
            return plain;
        }
    }

    private static final class Row extends Node {
        private final List<Node> parts = new ArrayList<>();
        private final List<Integer> leasts = new ArrayList<>();
        private final boolean compared;

        Row(boolean compared) {
            this.compared = compared;
        }

        Row add(Node node, int least) {
            parts.add(node);
            leasts.add(least);
            return this;
        }

        Row word(String words) {
            for (String word : words.split(" ")) {
                int change = word.equals("(") || word.equals("CASE") ? 1 : word.equals(")") || word.equals("END") ? -1 : 0;
                add(new Token(perhaps() ? word : word.toLowerCase(), word, change), 0);
            }
            return this;
        }

        Row onlyWritten(String words) {
            for (String word : words.split(" ")) {
                add(new Token(perhaps() ? word : word.toLowerCase(), "", 0), 0);
            }
            return this;
        }

        Row onlyPlain(String words) {
            return add(new Token("", words, 0), 0);
        }

        Row name() {
            return add(SentenceTest.name(), 0);
        }

        Row names() {
            word("(").name();
            for (int i = random(3); i > 0; i--) {
                word(",").name();
            }
            return word(")");
        }

        Row value(int room) {
            return add(expression(room), 1);
        }

        Row values(int room) {
            value(room);
            for (int i = random(3); i > 0; i--) {
                word(",").value(room);
            }
            return this;
        }

        Row number() {
            return add(SentenceTest.number(), 0);
        }

        @Override
        int level() {
            return compared ? COMPARED : VALUE;
        }

        @Override
        void body() {
            for (int i = 0; i < parts.size(); i++) {
                parts.get(i).write(leasts.get(i));
            }
        }

        @Override
        String plain() {
            List<String> forms = new ArrayList<>();
            for (Node part : parts) {
                if (!part.plain().isEmpty()) {
                    forms.add(part.plain());
                }
            }
            String form = String.join(" ", forms);
            return compared ? "( " + form + " )" : form;
        }
    }

    private static final class Two extends Node {
        private final int level;
        private final String operator;
        private final Node left;
        private final Node right;

        Two(int level, String operator, Node left, Node right) {
            this.level = level;
            this.operator = operator;
            this.left = left;
            this.right = right;
        }

        @Override
        int level() {
            return level;
        }

        @Override
        void body() {
            left.write(level);
            put(perhaps() ? operator : operator.toLowerCase());
            right.write(level + 1);
        }

        private String inside() {
            boolean together = left instanceof Two && left.level() == level;
            return (together ? ((Two) left).inside() : left.plain()) + " " + operator + " " + right.plain();
        }

        @Override
        String plain() {
            return "( " + inside() + " )";
        }
    }

    private static final class Before extends Node {
        private final int level;
        private final Node operand;

        Before(int level, Node operand) {
            this.level = level;
            this.operand = operand;
        }

        @Override
        int level() {
            return level;
        }

        @Override
        void body() {
            put(level == MINUS ? "-" : perhaps() ? "NOT" : "not");
            count(1);
            operand.write(level);
            count(-1);
        }

        @Override
        String plain() {
            return (level == MINUS ? "( - " : "( NOT ") + operand.plain() + " )";
        }
    }

    // ---- what trees are made ----

    private static Row row() {
        return new Row(false);
    }

    private static Node name() {
        String name = Arrays.asList("a", "b", "c", "tab", "tab2", "_", "x_1", "selecta", "in_", "a1234567890123456789012345678z").get(random(10));
        return new Token(perhaps() ? name : name.toUpperCase(), name, 0);
    }

    private static Node number() {
        String number = Arrays.asList("0", "1", "10", "908", "999999999999999999").get(random(5));
        return new Token("0".repeat(random(Math.min(4, 19 - number.length()))) + number, number, 0);
    }

    private static Node string() {
        String string = Arrays.asList("''", "'a'", "'a b  C'", "'it''s a'", "''''", "'-- (b'", "'b '' a'").get(random(7));
        return new Token(string, string, 0);
    }

    private static Node expression(int room) {
        int how = room <= 0 ? 0 : random(24);
        String[] sums = {"+", "-"};
        String[] products = {"*", "/", "%"};
        switch (how) {
            case 5: case 6: return new Two(OR, "OR", expression(room - 1), expression(room - 1));
            case 7: case 8: return new Two(AND, "AND", expression(room - 1), expression(room - 1));
            case 9: return new Before(NOT, expression(room - 1));
            case 10: case 11: return comparison(room - 1);
            case 12: case 13: return new Two(BARS, "||", expression(room - 1), expression(room - 1));
            case 14: case 15: return new Two(SUM, sums[random(2)], expression(room - 1), expression(room - 1));
            case 16: case 17: return new Two(PRODUCT, products[random(3)], expression(room - 1), expression(room - 1));
            case 18: return new Before(MINUS, expression(room - 1));
            case 19: case 20: case 21: return function(room - 1);
            default: return value();
        }
    }

    private static Node value() {
        switch (random(6)) {
            case 0: return number();
            case 1: return string();
            case 2: return row().word("NULL");
            case 3: return row().name().word(".").name();
            default: return row().name();
        }
    }

    private static Node comparison(int room) {
        Row row = new Row(true).add(expression(room), BARS);
        String not = perhaps() ? "NOT " : "";
        switch (random(6)) {
            case 0: return row.word("IS" + (perhaps() ? " NOT" : "")).word("NULL");
            case 1: return row.word(not + "IN (").values(room).word(")");
            case 2: return query(row.word(not + "IN ("), room).word(")");
            case 3: return row.word(not + "BETWEEN").add(expression(room), BARS).word("AND").add(expression(room), BARS);
            case 4: return row.word(not + "LIKE").add(expression(room), BARS);
            default:
                return row.word(Arrays.asList("=", "<>", "<", "<=", ">", ">=").get(random(6))).add(expression(room), BARS);
        }
    }

    private static Node function(int room) {
        Row row = row();
        switch (random(8)) {
            case 0: return query(row.word("EXISTS ("), room).word(")");
            case 1:
                row.word("CASE");
                for (int i = random(2); i >= 0; i--) {
                    row.word("WHEN").value(room).word("THEN").value(room);
                }
                return (perhaps() ? row.word("ELSE").value(room) : row).word("END");
            case 2: return row.word(Arrays.asList("ABS", "LENGTH", "UPPER", "LOWER").get(random(4)) + " (").value(room).word(")");
            case 3:
                row.word("SUBSTR (").value(room).word(",").value(room);
                return (perhaps() ? row.word(",").value(room) : row).word(")");
            case 4: return row.word("COALESCE (").values(room).word(")");
            case 5: return row.word("NULLIF (").value(room).word(",").value(room).word(")");
            case 6: return row.word("CAST (").value(room).word(perhaps() ? "AS INT )" : "AS TEXT )");
            default:
                if (random(4) == 0) {
                    return row.word("COUNT ( * )");
                }
                row.word(Arrays.asList("COUNT", "SUM", "MIN", "MAX", "AVG").get(random(5)) + " (");
                return (perhaps() ? row.word("DISTINCT") : row).value(room).word(")");
        }
    }

    private static Row query(Row row, int room) {
        row.word("SELECT");
        if (random(4) == 0) {
            row.word("DISTINCT");
        }
        if (random(4) == 0) {
            row.word("*");
        } else {
            item(row, room);
            for (int i = random(3); i > 0; i--) {
                item(row.word(","), room);
            }
        }
        if (perhaps()) {
            source(row.word("FROM"));
            for (int i = random(3); i > 0; i--) {
                join(row, room);
            }
        }
        if (random(3) == 0) {
            row.word("WHERE").value(room);
        }
        if (random(4) == 0) {
            row.word("GROUP BY").values(room);
        }
        if (random(4) == 0) {
            row.word("HAVING").value(room);
        }
        if (random(4) == 0) {
            order(row.word("ORDER BY"), room);
            for (int i = random(2); i > 0; i--) {
                order(row.word(","), room);
            }
        }
        if (random(4) == 0) {
            row.word("LIMIT").number();
            if (perhaps()) {
                row.word("OFFSET").number();
            }
        }
        return row;
    }

    private static void item(Row row, int room) {
        if (random(5) == 0) {
            row.name().word(". *");
            return;
        }
        row.value(room);
        if (random(3) == 0) {
            row.word("AS").name();
        }
    }

    private static void source(Row row) {
        row.name();
        if (random(3) == 0) {
            row.word("AS").name();
        }
    }

    private static void join(Row row, int room) {
        int how = random(6);
        switch (how) {
            case 0: row.onlyWritten(",").onlyPlain("CROSS JOIN"); break;
            case 1: row.word("CROSS JOIN"); break;
            case 2: row.onlyWritten("INNER").word("JOIN"); break;
            case 3: row.word("JOIN"); break;
            case 4: row.word("LEFT").onlyWritten("OUTER").word("JOIN"); break;
            default: row.word("LEFT JOIN");
        }
        source(row);
        if (how > 1) {
            row.word("ON").value(room);
        }
    }

    private static void order(Row row, int room) {
        row.value(room);
        switch (random(3)) {
            case 0: row.word("DESC"); break;
            case 1: row.onlyWritten("ASC"); break;
            default:
        }
    }

    private static Node statement(int kind) {
        Row row = row();
        int room = random(5);
        switch (kind) {
            case 1: return table(row.word("CREATE TABLE").name().word("("), room).word(")");
            case 2: return row.word(perhaps() ? "CREATE INDEX" : "CREATE UNIQUE INDEX").name().word("ON").name().names();
            case 3: return row.word("DROP TABLE").name();
            case 4: return row.word("DROP INDEX").name();
            case 5: return insert(row.word("INSERT INTO").name(), room);
            case 6:
                row.word("UPDATE").name().word("SET").name().word("=").value(room);
                for (int i = random(3); i > 0; i--) {
                    row.word(",").name().word("=").value(room);
                }
                return perhaps() ? row.word("WHERE").value(room) : row;
            case 7:
                row.word("DELETE FROM").name();
                return perhaps() ? row.word("WHERE").value(room) : row;
            case 8: return query(row, room);
            case 9:
                String level = Arrays.asList("", "SERIALIZABLE", "READ COMMITTED", "READ UNCOMMITTED").get(random(4));
                return level.isEmpty() ? row.word("BEGIN").onlyPlain("SERIALIZABLE") : row.word("BEGIN " + level);
            case 10: return row.word("COMMIT");
            case 11: return row.word("ROLLBACK");
            case 12: return row.word("SAVEPOINT").name();
            case 13: return row.word("ROLLBACK TO").name();
            case 14: return row.word("LOCK TABLE").name().word(perhaps() ? "IN SHARE MODE" : "IN EXCLUSIVE MODE");
            case 15: return row.word("PREPARE").number();
            case 16: return row.word("COMMIT PREPARED").number();
            default: return row.word("ROLLBACK PREPARED").number();
        }
    }

    private static Row insert(Row row, int room) {
        if (perhaps()) {
            row.names();
        }
        if (random(3) == 0) {
            return query(row, room);
        }
        row.word("VALUES (").values(room).word(")");
        for (int i = random(3); i > 0; i--) {
            row.word(", (").values(room).word(")");
        }
        return row;
    }

    private static Row table(Row row, int room) {
        for (int i = random(4); i >= 0; i--) {
            switch (random(6)) {
                case 0: row.word("PRIMARY KEY").names(); break;
                case 1: row.word("UNIQUE").names(); break;
                case 2: row.word("CHECK (").value(room).word(")"); break;
                default: column(row, room);
            }
            if (i > 0) {
                row.word(",");
            }
        }
        return row;
    }

    private static void column(Row row, int room) {
        row.name().word(perhaps() ? "INT" : "TEXT");
        for (int i = random(4); i > 0; i--) {
            switch (random(8)) {
                case 0: row.word("NOT NULL"); break;
                case 1: row.word("PRIMARY KEY"); break;
                case 2: row.word("UNIQUE"); break;
                case 3: row.word(perhaps() ? "DEFAULT" : "DEFAULT -").number(); break;
                case 4: row.word("DEFAULT").add(perhaps() ? string() : row().word("NULL"), 0); break;
                case 5: row.word("CHECK (").value(room).word(")"); break;
                case 6: row.word("REFERENCES").name().onlyPlain("ON DELETE RESTRICT"); break;
                default:
                    String what = Arrays.asList("CASCADE", "RESTRICT", "SET NULL").get(random(3));
                    row.word("REFERENCES").name().word("ON DELETE " + what);
            }
        }
    }
}
