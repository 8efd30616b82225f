import java.util.ArrayList;
import java.util.Arrays;
import java.util.HashSet;
import java.util.List;
import java.util.Set;

/** A second reading of the document: recursive, with exceptions and lists, to compare answers with. */
final class Model {
    private static final Set<String> RESERVED = new HashSet<>(Arrays.asList(
            ("select where group by and or not is null in true false count sum min max").split(" ")));
    private static final List<String> OPERATORS = List.of("=", "<>", "<", "<=", ">", ">=");
    private static final List<String> COLLECTORS = List.of("count", "sum", "min", "max");

    private record Field(String name, int group, int kind, int type) {
    }

    private record Item(int what, int field, int place) {
    }

    record Literal(int type, long number, String text) {
    }

    static final class Plan {
        final List<int[]> items = new ArrayList<>();
        final List<Integer> by = new ArrayList<>();
        final List<int[]> steps = new ArrayList<>();
        final List<Literal> literals = new ArrayList<>();
        boolean collects;
    }

    private static final class CantStand extends Exception {
        private static final long serialVersionUID = 1L;
        final int place;

        CantStand(int place) {
            this.place = place;
        }
    }

    private final List<Field> fields = new ArrayList<>();
    Plan plan = new Plan();

    int field(int group, int kind, int type, String name) {
        plan = new Plan();
        boolean hasGroup = group == -1 || group >= 0 && group < fields.size() && fields.get(group).type == 4;
        boolean wrong = fields.size() == 64 || !hasGroup || kind < 0 || kind > 2 || type < 0 || type > 4
                || !name.matches("[a-zA-Z][a-zA-Z0-9_]{0,15}") || find(group, name) >= 0;
        if (wrong) {
            return -1;
        }
        fields.add(new Field(name, group, kind, type));
        return fields.size() - 1;
    }

    private int find(int group, String name) {
        for (int f = 0; f < fields.size(); f++) {
            if (fields.get(f).group == group && fields.get(f).name.equals(name)) {
                return f;
            }
        }
        return -1;
    }

    private boolean isValue(int f) {
        boolean flat = fields.get(f).type != 4;
        for (int g = f; g >= 0; g = fields.get(g).group) {
            flat &= fields.get(g).kind != 2;
        }
        return flat;
    }

    int query(String text) {
        try {
            plan = new Reading(text).query();
            return -1;
        } catch (CantStand e) {
            return e.place;
        }
    }

    private final class Reading {
        private final String text;
        private final Plan out = new Plan();
        private int at = 0;

        Reading(String text) {
            this.text = text;
        }

        private int here() {
            while (at < text.length() && (text.charAt(at) == ' ' || text.charAt(at) == '\n')) {
                at++;
            }
            return at;
        }

        private char peek() {
            return here() < text.length() ? text.charAt(at) : 0xffff;
        }

        private CantStand wrong() {
            return new CantStand(here());
        }

        private boolean isWordChar(int i) {
            return i < text.length() && String.valueOf(text.charAt(i)).matches("[a-zA-Z0-9_]");
        }

        private boolean isLetter(int i) {
            return isWordChar(i) && String.valueOf(text.charAt(i)).matches("[a-zA-Z]");
        }

        private String wordAt(int i) {
            int end = i;
            if (isLetter(i)) {
                while (isWordChar(end)) {
                    end++;
                }
            }
            return text.substring(i, end);
        }

        private String word() {
            return wordAt(here());
        }

        private boolean skipWord(String word) {
            boolean there = word().equals(word);
            at += there ? word.length() : 0;
            return there;
        }

        private boolean skipSign(char sign) {
            boolean there = peek() == sign;
            at += there ? 1 : 0;
            return there;
        }

        private void needWord(String word) throws CantStand {
            if (!skipWord(word)) {
                throw wrong();
            }
        }

        private void needSign(char sign) throws CantStand {
            if (!skipSign(sign)) {
                throw wrong();
            }
        }

        private int path() throws CantStand {
            int begin = here();
            List<String> names = new ArrayList<>();
            do {
                at += names.isEmpty() ? 0 : 1;
                String name = wordAt(at);
                if (name.isEmpty() || RESERVED.contains(name)) {
                    throw new CantStand(at);
                }
                names.add(name);
                at += name.length();
            } while (at < text.length() && text.charAt(at) == '.');
            int f = -1;
            for (String name : names) {
                f = find(f, name);
                if (f < 0) {
                    throw new CantStand(begin);
                }
            }
            return f;
        }

        private int value() throws CantStand {
            int begin = here();
            int f = path();
            if (!isValue(f)) {
                throw new CantStand(begin);
            }
            return f;
        }

        Plan query() throws CantStand {
            needWord("select");
            List<Item> items = new ArrayList<>();
            do {
                if (items.size() == 16) {
                    throw wrong();
                }
                items.add(item());
            } while (skipSign(','));
            if (skipWord("where")) {
                condition(0);
            }
            if (skipWord("group")) {
                needWord("by");
                do {
                    if (out.by.size() == 8) {
                        throw wrong();
                    }
                    int begin = here();
                    int f = value();
                    if (out.by.contains(f)) {
                        throw new CantStand(begin);
                    }
                    out.by.add(f);
                } while (skipSign(','));
            }
            if (here() < text.length()) {
                throw wrong();
            }
            out.collects = !out.by.isEmpty();
            for (Item item : items) {
                out.collects |= item.what != 0;
                out.items.add(new int[] {item.what, item.field});
            }
            for (Item item : items) {
                if (out.collects && item.what == 0 && !out.by.contains(item.field)) {
                    throw new CantStand(item.place);
                }
            }
            return out;
        }

        private Item item() throws CantStand {
            int begin = here();
            String word = word();
            int collector = COLLECTORS.indexOf(word);
            if (collector < 0) {
                return new Item(0, path(), begin);
            }
            skipWord(word);
            if (collector == 0 && peek() != '(') {
                return new Item(1, -1, begin);
            }
            needSign('(');
            int pathBegin = here();
            int f = value();
            if (collector == 1 && fields.get(f).type != 1 && fields.get(f).type != 2) {
                throw new CantStand(pathBegin);
            }
            needSign(')');
            return new Item(2 + collector, f, begin);
        }

        private void step(int place, int... parts) throws CantStand {
            if (out.steps.size() == 64) {
                throw new CantStand(place);
            }
            out.steps.add(parts);
        }

        private void condition(int depth) throws CantStand {
            part(depth);
            int begin = here();
            while (skipWord("or")) {
                part(depth);
                step(begin, 7, -1, -1, -1, 0);
                begin = here();
            }
        }

        private void part(int depth) throws CantStand {
            test(depth);
            int begin = here();
            while (skipWord("and")) {
                test(depth);
                step(begin, 6, -1, -1, -1, 0);
                begin = here();
            }
        }

        private void test(int depth) throws CantStand {
            int begin = here();
            boolean not = word().equals("not");
            if (depth == 32 && (not || peek() == '(')) {
                throw wrong();
            }
            if (not) {
                skipWord("not");
                test(depth + 1);
                step(begin, 5, -1, -1, -1, 0);
            } else if (skipSign('(')) {
                condition(depth + 1);
                needSign(')');
            } else {
                asked(begin);
            }
        }

        private void asked(int begin) throws CantStand {
            int f = value();
            int first = out.literals.size();
            if (skipWord("is")) {
                int kind = skipWord("not") ? 1 : 0;
                needWord("null");
                step(begin, kind, f, -1, -1, 0);
                return;
            }
            if (skipWord("in")) {
                needSign('(');
                do {
                    literal(f);
                } while (skipSign(','));
                needSign(')');
                step(begin, 2, f, -1, first, out.literals.size() - first);
                return;
            }
            int operator = operator();
            String word = word();
            if (word.isEmpty() || RESERVED.contains(word)) {
                literal(f);
                step(begin, 3, f, operator, first, 1);
                return;
            }
            int otherBegin = here();
            int other = value();
            if (sort(fields.get(f).type) != sort(fields.get(other).type)) {
                throw new CantStand(otherBegin);
            }
            step(begin, 4, f, operator, other, 0);
        }

        private int sort(int type) {
            return type == 1 ? 2 : type;
        }

        private int operator() throws CantStand {
            int begin = here();
            for (int length = 2; length > 0; length--) {
                int end = Math.min(text.length(), begin + length);
                int found = OPERATORS.indexOf(text.substring(begin, end));
                if (found >= 0) {
                    at = end;
                    return found;
                }
            }
            throw wrong();
        }

        private void literal(int f) throws CantStand {
            int begin = here();
            Literal literal;
            if (skipWord("true")) {
                literal = new Literal(0, 1, null);
            } else if (skipWord("false")) {
                literal = new Literal(0, 0, null);
            } else if (peek() == '\'') {
                literal = new Literal(3, 0, text());
            } else {
                literal = new Literal(2, number(), null);
            }
            if (literal.type != sort(fields.get(f).type) || out.literals.size() == 64) {
                throw new CantStand(begin);
            }
            out.literals.add(literal);
        }

        private long number() throws CantStand {
            int begin = here();
            String rest = text.substring(begin);
            if (rest.equals("-")) {
                throw new CantStand(text.length());
            }
            int end = rest.startsWith("-") ? 1 : 0;
            while (end < rest.length() && rest.charAt(end) >= '0' && rest.charAt(end) <= '9') {
                end++;
            }
            String number = rest.substring(0, end);
            if (!number.matches("0|-?[1-9][0-9]*") || new java.math.BigInteger(number).bitLength() > 63) {
                throw wrong();
            }
            at += end;
            return Long.parseLong(number);
        }

        private String text() throws CantStand {
            StringBuilder bytes = new StringBuilder();
            at++;
            while (at < text.length()) {
                char c = text.charAt(at);
                if (c == '\'') {
                    at++;
                    return bytes.toString();
                }
                if (bytes.length() == 255 || c < 32 || c > 126) {
                    throw new CantStand(at);
                }
                String rest = text.substring(at, Math.min(text.length(), at + 4));
                if (c != '\\') {
                    bytes.append(c);
                    at++;
                } else if (rest.matches("(?s)\\\\['\\\\].*")) {
                    bytes.append(rest.charAt(1));
                    at += 2;
                } else if (rest.matches("\\\\x[0-9a-f]{2}")) {
                    bytes.append((char) Integer.parseInt(rest.substring(2), 16));
                    at += 4;
                } else if (rest.matches("\\\\(x[0-9a-f]?)?") && at + rest.length() == text.length()) {
                    break;
                } else {
                    throw new CantStand(at);
                }
            }
            throw new CantStand(text.length());
        }
    }
}
