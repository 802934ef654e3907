import java.util.ArrayList;
import java.util.Arrays;
import java.util.HashMap;
import java.util.HashSet;
import java.util.List;
import java.util.Map;
import java.util.Set;

/**
 * Finds the first token with which no text of the language begins so in another way than the class does: with
 * Earley's method, which knows every way to go on at once, over the document's rules written down below. Texts that
 * the rules make, and such with tokens changed, must be answered alike.
 */
final class PrefixTest {
    /** Tokens are in great letters or quoted; { } any number, [ ] perhaps, ( | ) one of these. */
    private static final String RULES = String.join("\n",
        "statement = body [';']",
        "body = CREATE TABLE n '(' element { ',' element } ')'"
            + " | CREATE [ UNIQUE ] INDEX n ON n '(' n { ',' n } ')' | DROP TABLE n | DROP INDEX n"
            + " | INSERT INTO n [ '(' n { ',' n } ')' ] ( VALUES row { ',' row } | q )"
            + " | UPDATE n SET n '=' e { ',' n '=' e } [ WHERE e ] | DELETE FROM n [ WHERE e ] | q"
            + " | BEGIN [ SERIALIZABLE | READ COMMITTED | READ UNCOMMITTED ] | COMMIT | ROLLBACK | SAVEPOINT n | ROLLBACK TO n"
            + " | LOCK TABLE n IN ( SHARE | EXCLUSIVE ) MODE | PREPARE k | COMMIT PREPARED k | ROLLBACK PREPARED k",
        "element = n ( INT | TEXT ) { option } | PRIMARY KEY '(' n { ',' n } ')' | UNIQUE '(' n { ',' n } ')' | CHECK '(' e ')'",
        "option = NOT NULL | PRIMARY KEY | UNIQUE | DEFAULT literal | DEFAULT '-' k | CHECK '(' e ')'"
            + " | REFERENCES n [ ON DELETE ( CASCADE | RESTRICT | SET NULL ) ]",
        "row = '(' e { ',' e } ')'",
        "q = SELECT [ DISTINCT ] ( '*' | item { ',' item } ) [ FROM source { join } ] [ WHERE e ] [ GROUP BY e { ',' e } ]"
            + " [ HAVING e ] [ ORDER BY order { ',' order } ] [ LIMIT k [ OFFSET k ] ]",
        "item = e [ AS n ] | n '.' '*'",
        "source = n [ AS n ]",
        "join = ',' source | CROSS JOIN source | [ INNER ] JOIN source ON e | LEFT [ OUTER ] JOIN source ON e",
        "order = e [ ASC | DESC ]",
        "e = a { OR a }",
        "a = b { AND b }",
        "b = NOT b | c",
        "c = s [ ( '=' | '<>' | '<' | '<=' | '>' | '>=' ) s | IS [ NOT ] NULL | [ NOT ] IN '(' q ')' | [ NOT ] IN '(' e { ',' e } ')'"
            + " | [ NOT ] BETWEEN s AND s | [ NOT ] LIKE s ]",
        "s = m { '||' m }",
        "m = t { ( '+' | '-' ) t }",
        "t = u { ( '*' | '/' | '%' ) u }",
        "u = '-' u | p",
        "p = literal | n | n '.' n | '(' e ')' | EXISTS '(' q ')' | CASE WHEN e THEN e { WHEN e THEN e } [ ELSE e ] END"
            + " | ABS '(' e ')' | LENGTH '(' e ')' | UPPER '(' e ')' | LOWER '(' e ')' | SUBSTR '(' e ',' e [ ',' e ] ')'"
            + " | COALESCE '(' e { ',' e } ')' | NULLIF '(' e ',' e ')' | CAST '(' e AS ( INT | TEXT ) ')' | COUNT '(' '*' ')'"
            + " | ( COUNT | SUM | MIN | MAX | AVG ) '(' [ DISTINCT ] e ')'",
        "literal = k | STRING | NULL",
        "n = NAME",
        "k = NUMBER");

    private static final Map<String, List<List<String>>> GRAMMAR = new HashMap<>();
    private static final Set<String> NULLABLE = new HashSet<>();
    private static final Map<String, Integer> SHALLOWEST = new HashMap<>();
    private static final List<String> VOCABULARY = new ArrayList<>();

    private static String[] words;
    private static int word;
    private static long seed = 1;

    public static void main(String[] args) {
        for (String rule : RULES.split("\n")) {
            words = rule.substring(rule.indexOf('=') + 1).trim().split("\\s+|(?<=\\[)(?=')|(?<=')(?=\\])");
            word = 0;
            GRAMMAR.put(rule.substring(0, rule.indexOf('=')).trim(), alternatives());
        }
        findNullable();
        findShallowest();
        findVocabulary();
        int texts = 0;
        int statements = 0;
        for (int i = 0; i < 6000; i++) {
            List<String> tokens = new ArrayList<>();
            derive("statement", 14 + random(14), tokens);
            if (tokens.size() > 90) {
                continue;
            }
            statements += check(tokens);
            for (int k = 0; k < 6; k++) {
                statements += check(changed(tokens));
                texts++;
            }
            texts++;
        }
        for (int i = 0; i < 3000; i++) {
            statements += check(grown());
            texts++;
        }
        System.out.println("PrefixTest: " + texts + " texts, " + statements + " statements among them");
        Checks.holds("some are statements, and some are none", statements > 2000 && texts - statements > 2000);
        Checks.finish("PrefixTest");
    }

    // ---- the rules ----

    private static List<List<String>> alternatives() {
        List<List<String>> all = new ArrayList<>();
        List<String> one = new ArrayList<>();
        for (; word < words.length; word++) {
            String here = words[word];
            if (here.equals("|")) {
                all.add(one);
                one = new ArrayList<>();
            } else if (here.equals(")") || here.equals("]") || here.equals("}")) {
                break;
            } else if (here.equals("(") || here.equals("[") || here.equals("{")) {
                word++;
                String part = "#" + GRAMMAR.size();
                GRAMMAR.put(part, new ArrayList<>());
                List<List<String>> inner = alternatives();
                if (here.equals("{")) {
                    inner.forEach(way -> way.add(part));
                }
                if (!here.equals("(")) {
                    inner.add(new ArrayList<>());
                }
                GRAMMAR.put(part, inner);
                one.add(part);
            } else {
                one.add(here.startsWith("'") ? here.substring(1, here.length() - 1) : here);
            }
        }
        all.add(one);
        return all;
    }

    private static void findNullable() {
        for (int turn = 0; turn < GRAMMAR.size(); turn++) {
            GRAMMAR.forEach((part, ways) -> {
                if (ways.stream().anyMatch(NULLABLE::containsAll)) {
                    NULLABLE.add(part);
                }
            });
        }
    }

    private static void findShallowest() {
        for (int turn = 0; turn < GRAMMAR.size(); turn++) {
            GRAMMAR.forEach((part, ways) -> {
                int least = ways.stream().mapToInt(PrefixTest::depth).min().orElse(999);
                SHALLOWEST.put(part, Math.min(SHALLOWEST.getOrDefault(part, 999), least + 1));
            });
        }
    }

    private static int depth(List<String> way) {
        return way.stream().mapToInt(x -> GRAMMAR.containsKey(x) ? SHALLOWEST.getOrDefault(x, 999) : 0).max().orElse(0);
    }

    private static void findVocabulary() {
        Set<String> all = new HashSet<>();
        GRAMMAR.values().forEach(ways -> ways.forEach(all::addAll));
        all.removeAll(GRAMMAR.keySet());
        all.add("ALL");
        all.add("$");
        VOCABULARY.addAll(all);
        VOCABULARY.sort(null);
    }

    // ---- texts ----

    private static int random(int below) {
        seed = seed * 6364136223846793005L + 1442695040888963407L;
        return (int) ((seed >>> 33) % below);
    }

    private static void derive(String part, int room, List<String> tokens) {
        List<List<String>> ways = GRAMMAR.get(part);
        if (ways == null) {
            tokens.add(part);
            return;
        }
        List<List<String>> fitting = new ArrayList<>(ways);
        fitting.removeIf(way -> depth(way) >= room);
        if (fitting.isEmpty() || tokens.size() > 60) {
            fitting = new ArrayList<>(ways);
            int least = fitting.stream().mapToInt(PrefixTest::depth).min().orElse(0);
            fitting.removeIf(way -> depth(way) > least);
        }
        for (String next : fitting.get(random(fitting.size()))) {
            derive(next, room - 1, tokens);
        }
    }

    private static List<String> changed(List<String> tokens) {
        List<String> other = new ArrayList<>(tokens);
        for (int i = random(2); i >= 0; i--) {
            int at = random(other.size() + 1);
            int how = random(5);
            String any = random(3) == 0 && !other.isEmpty() ? other.get(random(other.size())) : VOCABULARY.get(random(VOCABULARY.size()));
            if (how == 0 || at == other.size()) {
                other.add(at, any);
            } else if (how == 1) {
                other.remove(at);
            } else if (how == 2) {
                other.set(at, any);
            } else if (how == 3) {
                other = new ArrayList<>(other.subList(0, at));
            } else if (at > 0) {
                other.set(at, other.set(at - 1, other.get(at)));
            }
        }
        return other;
    }

    /** A text that takes any token that can stand, one behind the other, and at last one that need not. */
    private static List<String> grown() {
        List<String> tokens = new ArrayList<>();
        for (int i = random(25); i >= 0; i--) {
            List<String> standing = new ArrayList<>(after(sets(tokens).get(tokens.size())));
            standing.sort(null);
            standing.remove("");
            if (!standing.isEmpty()) {
                tokens.add(standing.get(random(standing.size())));
            }
        }
        if (random(2) == 0) {
            tokens.add(VOCABULARY.get(random(VOCABULARY.size())));
        }
        return tokens;
    }

    // ---- Earley's method ----

    private record Item(String part, List<String> way, int dot, int from) {
    }

    /** A set before each token and one behind the last, up to a token that can't stand. */
    private static List<Set<Item>> sets(List<String> tokens) {
        List<Set<Item>> sets = new ArrayList<>();
        Set<Item> next = new HashSet<>();
        GRAMMAR.get("statement").forEach(way -> next.add(new Item("statement", way, 0, 0)));
        for (int i = 0; i <= tokens.size() && !next.isEmpty(); i++) {
            Set<Item> set = closed(new HashSet<>(next), sets, i);
            sets.add(set);
            next.clear();
            for (Item item : set) {
                if (i < tokens.size() && item.dot < item.way.size() && item.way.get(item.dot).equals(tokens.get(i))) {
                    next.add(new Item(item.part, item.way, item.dot + 1, item.from));
                }
            }
        }
        return sets;
    }

    /** The tokens that can stand behind this set, and "" when the text can end there. */
    private static Set<String> after(Set<Item> items) {
        Set<String> tokens = new HashSet<>();
        for (Item item : items) {
            if (item.dot < item.way.size()) {
                tokens.add(item.way.get(item.dot));
            } else if (item.part.equals("statement")) {
                tokens.add("");
            }
        }
        tokens.removeAll(GRAMMAR.keySet());
        return tokens;
    }

    private static Set<Item> closed(Set<Item> set, List<Set<Item>> before, int here) {
        List<Item> work = new ArrayList<>(set);
        for (int i = 0; i < work.size(); i++) {
            Item item = work.get(i);
            List<Item> more = new ArrayList<>();
            if (item.dot == item.way.size()) {
                for (Item waiting : item.from == here ? new ArrayList<>(set) : before.get(item.from)) {
                    if (waiting.dot < waiting.way.size() && waiting.way.get(waiting.dot).equals(item.part)) {
                        more.add(new Item(waiting.part, waiting.way, waiting.dot + 1, waiting.from));
                    }
                }
            } else if (GRAMMAR.containsKey(item.way.get(item.dot))) {
                String part = item.way.get(item.dot);
                GRAMMAR.get(part).forEach(way -> more.add(new Item(part, way, 0, here)));
                if (NULLABLE.contains(part)) {
                    more.add(new Item(item.part, item.way, item.dot + 1, item.from));
                }
            }
            for (Item one : more) {
                if (set.add(one)) {
                    work.add(one);
                }
            }
        }
        return set;
    }

    /** Which token is at fault, the number of tokens for the end, or -1 when none is. */
    private static int fault(List<String> tokens) {
        List<Set<Item>> sets = sets(tokens);
        int last = sets.size() - 1;
        return last == tokens.size() && after(sets.get(last)).contains("") ? -1 : last;
    }

    /** Reads the tokens as a text; whether it is a statement. */
    private static int check(List<String> tokens) {
        StringBuilder text = new StringBuilder();
        int[] places = new int[tokens.size() + 1];
        for (int i = 0; i < tokens.size(); i++) {
            text.append(Arrays.asList("\n", " ", "  ", "\t", " -- ' x\n").get(random(5)));
            places[i] = text.length();
            text.append(written(tokens.get(i)));
        }
        text.append(Arrays.asList("", " ", "\r\n", " --").get(random(4)));
        places[tokens.size()] = text.length();
        int fault = fault(tokens);
        QueryReader x = new QueryReader();
        Checks.same("reading " + text, Checks.read(x, text.toString()), fault < 0 ? 0 : places[fault] + 1);
        return fault < 0 ? 1 : 0;
    }

    private static String written(String token) {
        switch (token) {
            case "NAME": return Arrays.asList("a", "Tab", "_x1", "selects").get(random(4));
            case "NUMBER": return Arrays.asList("0", "7", "007").get(random(3));
            case "STRING": return Arrays.asList("''", "'a b'", "'it''s'").get(random(3));
            default: return random(2) == 0 ? token : token.toLowerCase();
        }
    }
}
