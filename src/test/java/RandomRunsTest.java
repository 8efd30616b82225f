import java.util.Random;

/** Runs of made-up texts, most of them nearly right, with the answers of the Model; always the same runs. */
public final class RandomRunsTest {
    private static final String[] NAMES = {"a", "b", "c", "d", "e", "f", "ab", "count", "A_1"};
    private static final String[] PIECES = {"select", "where", "group", "by", "and", "or", "not", "is", "null", "in",
        "true", "false", "count", "sum", "min", "max", "a", "b", "c", "ab", "nothing", ",", "(", ")", "=", "<>", "<",
        "<=", ">", ">=", ".", "'", "'x'", "0", "1", "-1", "-", "007", "\\", "\\x", " ", "\n", "#", "_", "\u0000",
        "\u00ff", "group by", "is null", "not ("};
    private static final String[] OPERATORS = {"=", "<>", "<", "<=", ">", ">="};

    private final Random random;
    private final QueryText x = new QueryText();
    private final Model model = new Model();
    private final String[] paths = new String[64];
    private final int[] types = new int[64];
    private int fields = 0;
    private int calls = 0;
    private static int stood = 0;

    private RandomRunsTest(int seed) {
        random = new Random(seed);
    }

    public static void main(String[] args) {
        for (int seed = 0; seed < 9000; seed++) {
            new RandomRunsTest(seed).run();
        }
        Check.due("enough texts stand", stood > 5000 ? 1 : 0, 1);
        for (int seed = 0; seed < 300; seed++) {
            anyCalls(new Random(seed));
        }
        Check.end();
    }

    /** Any call with any numbers: none may throw or change what the bounds are. */
    private static void anyCalls(Random random) {
        QueryText x = new QueryText();
        for (int i = 0; i < 512; i++) {
            int p = any(random);
            int q = any(random);
            switch (random.nextInt(11)) {
                case 0 -> x.feed(p, q, any(random), any(random), any(random));
                case 1 -> x.field(p, random.nextInt(4), random.nextInt(6), q);
                case 2 -> x.query(p);
                case 3 -> x.count(p);
                case 4 -> x.item(p, q);
                case 5 -> x.by(p);
                case 6 -> x.step(p, q);
                case 7 -> x.literal(p);
                case 8 -> x.number(p);
                case 9 -> x.length(p);
                default -> x.byteOf(p, q);
            }
        }
    }

    private static int any(Random random) {
        return random.nextInt(3) == 0 ? random.nextInt() : random.nextInt(24) - 2;
    }

    private void run() {
        int wanted = 3 + random.nextInt(12);
        for (int i = 0; i < wanted; i++) {
            addField();
        }
        for (int i = 0; i < 8 && calls < 380; i++) {
            String text = text();
            calls += (text.length() + 19) / 20 + 1;
            int due = model.query(text);
            stood += due == -1 ? 1 : 0;
            Check.due("query " + text, Check.query(x, text), due);
            compare(text);
            if (random.nextInt(12) == 0 && calls < 300) {
                addField();
                compare("field");
            }
        }
    }

    private void addField() {
        int group = random.nextInt(3) == 0 || fields == 0 ? -1 : random.nextInt(fields + 1) - 1;
        int kind = random.nextInt(6) == 0 ? 2 : random.nextInt(2);
        int type = random.nextInt(20) == 0 ? 5 : random.nextInt(5);
        String name = NAMES[random.nextInt(NAMES.length)];
        int due = model.field(group, kind, type, name);
        Check.due("field " + name, Check.field(x, group, kind, type, name), due);
        calls += 2;
        if (due >= 0) {
            paths[due] = (group < 0 ? "" : paths[group] + ".") + name;
            types[due] = type;
            fields++;
        }
    }

    /** Whether so many calls more are within the 512 for which the document promises answers. */
    private boolean hasCalls(int more) {
        calls += more;
        return calls <= 512;
    }

    private void compare(String text) {
        Model.Plan plan = model.plan;
        int[] counts = {plan.items.size(), plan.by.size(), plan.steps.size(), plan.literals.size(),
            plan.collects ? 1 : 0};
        for (int what = 0; what < 5 && hasCalls(1); what++) {
            Check.due("count(" + what + ") of " + text, x.count(what), counts[what]);
        }
        for (int i = 0; i <= counts[0] && hasCalls(2); i++) {
            for (int what = 0; what < 2; what++) {
                int due = i < counts[0] ? plan.items.get(i)[what] : -1;
                Check.due("item(" + i + ", " + what + ") of " + text, x.item(i, what), due);
            }
        }
        for (int i = 0; i <= counts[1] && hasCalls(1); i++) {
            Check.due("by(" + i + ") of " + text, x.by(i), i < counts[1] ? plan.by.get(i) : -1);
        }
        for (int i = 0; i <= counts[2] && hasCalls(5); i++) {
            for (int what = 0; what < 5; what++) {
                int due = i < counts[2] ? plan.steps.get(i)[what] : -1;
                Check.due("step(" + i + ", " + what + ") of " + text, x.step(i, what), due);
            }
        }
        for (int i = 0; i < counts[3] && hasCalls(3); i++) {
            compareLiteral(i, plan.literals.get(i), text);
        }
    }

    private void compareLiteral(int i, Model.Literal literal, String text) {
        int length = literal.text() == null ? -1 : literal.text().length();
        Check.due("literal(" + i + ") of " + text, x.literal(i), literal.type());
        Check.due("number(" + i + ") of " + text, x.number(i), literal.number());
        Check.due("length(" + i + ") of " + text, x.length(i), length);
        for (int k = 0; k <= length && hasCalls(1); k++) {
            Check.due("byteOf(" + i + ", " + k + ") of " + text, x.byteOf(i, k),
                    k < length ? literal.text().charAt(k) : -1);
        }
    }

    private String text() {
        StringBuilder text = new StringBuilder("select" + blank());
        boolean collects = random.nextInt(3) == 0;
        String by = "";
        String items = "";
        if (collects) {
            int many = random.nextInt(many(4, 9));
            for (int i = 0; i < many; i++) {
                String path = path(-1);
                by += (i == 0 ? "" : ",") + path;
                items += path + "," + gap();
            }
            items += random.nextInt(3) == 0 ? "count" : collector();
        } else {
            int many = 1 + random.nextInt(many(4, 17));
            for (int i = 0; i < many; i++) {
                items += (i == 0 ? "" : "," + gap()) + path(-1);
            }
        }
        text.append(items).append(gap());
        if (random.nextInt(5) != 0) {
            text.append(" where").append(blank()).append(condition(1 + random.nextInt(many(5, 40)), 0)).append(gap());
        }
        if (!by.isEmpty()) {
            text.append(" group").append(blank()).append("by").append(blank()).append(by).append(gap());
        }
        String whole = text.substring(0, Math.min(2000, text.length()));
        int changes = random.nextInt(3);
        for (int i = 0; i < changes; i++) {
            whole = changed(whole);
        }
        return whole.substring(0, Math.min(1900, whole.length()));
    }

    /** Mostly few, at times so many that a bound is met. */
    private int many(int few, int most) {
        return random.nextInt(15) == 0 ? most : few;
    }

    private String changed(String text) {
        int at = random.nextInt(text.length() + 1);
        int to = Math.min(text.length(), at + random.nextInt(4));
        String piece = PIECES[random.nextInt(PIECES.length)];
        switch (random.nextInt(6)) {
            case 0:
                return text.substring(0, at);
            case 1:
                return text.substring(0, at) + text.substring(to);
            case 2:
                return text.substring(0, at) + piece + text.substring(at);
            case 3:
                return text.substring(0, at) + piece + text.substring(to);
            default:
                int word = text.indexOf(' ', at);
                return word < 0 ? text : text.substring(0, word + 1) + piece + text.substring(word);
        }
    }

    private String blank() {
        return random.nextInt(8) == 0 ? "\n " : " ";
    }

    private String gap() {
        return random.nextInt(3) == 0 ? blank() : "";
    }

    /** The path of a field, of a type if it is told and there is one. */
    private String path(int type) {
        int f = fields == 0 ? -1 : random.nextInt(fields);
        for (int i = 0; i < fields && type >= 0 && types[f] != type; i++) {
            f = (f + 1) % fields;
        }
        return f < 0 || random.nextInt(80) == 0 ? "a.b" : paths[f];
    }

    private String collector() {
        String[] words = {"count", "sum", "min", "max"};
        return words[random.nextInt(4)] + gap() + "(" + gap() + path(random.nextInt(4)) + gap() + ")";
    }

    private String condition(int tests, int depth) {
        if (tests > 1) {
            int left = 1 + random.nextInt(tests - 1);
            String word = random.nextBoolean() ? " and" : " or";
            String both = condition(left, depth + 1) + word + blank() + condition(tests - left, depth + 1);
            return random.nextInt(4) == 0 ? "(" + gap() + both + gap() + ")" : both;
        }
        switch (random.nextInt(depth > 60 ? 1 : 12)) {
            case 10:
                return "not" + blank() + condition(1, depth + 1);
            case 11:
                return random.nextInt(20) == 0 ? "not (".repeat(15) + condition(1, depth + 30) + ")".repeat(15)
                        : "(" + condition(1, depth + 1) + ")";
            default:
                return test();
        }
    }

    private String test() {
        int type = random.nextInt(4);
        String path = path(type);
        switch (random.nextInt(6)) {
            case 0:
                return path + " is" + (random.nextBoolean() ? " not" : "") + blank() + "null";
            case 1:
                return path + gap() + OPERATORS[random.nextInt(6)] + gap() + path(type);
            case 2:
                StringBuilder in = new StringBuilder(path + " in" + gap() + "(" + gap() + literal(type));
                int more = random.nextInt(many(4, 70));
                for (int i = 0; i < more; i++) {
                    in.append(gap()).append(",").append(gap()).append(literal(type));
                }
                return in + gap() + ")";
            default:
                return path + gap() + OPERATORS[random.nextInt(6)] + gap() + literal(type);
        }
    }

    private String literal(int type) {
        switch (random.nextInt(60) == 0 ? random.nextInt(4) : type) {
            case 0:
                return random.nextBoolean() ? "true" : "false";
            case 3:
                return textLiteral();
            default:
                return random.nextInt(20) == 0 ? "9223372036854775" + (780 + random.nextInt(40))
                        : "" + (random.nextLong() >> random.nextInt(64));
        }
    }

    private String textLiteral() {
        StringBuilder text = new StringBuilder("'");
        int length = random.nextInt(25) == 0 ? 250 + random.nextInt(8) : random.nextInt(5);
        for (int i = 0; i < length; i++) {
            switch (random.nextInt(8)) {
                case 0 -> text.append("\\'");
                case 1 -> text.append("\\\\");
                case 2 -> text.append("\\x").append(Integer.toHexString(256 + random.nextInt(256)).substring(1));
                case 3 -> text.append(random.nextInt(100) == 0 ? (char) random.nextInt(256) : ' ');
                default -> text.append((char) ('a' + random.nextInt(26)));
            }
        }
        return text + "'";
    }
}
