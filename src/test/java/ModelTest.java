import java.util.Random;

/** Long runs of calls by chance (always the same ones), asked of EatKnown and of the plain Model. */
final class ModelTest {
    private static final int OBJECTS = 120;
    private static final int CALLS = 400;

    private final Check check = new Check();
    private final Random random;
    private final EatKnown x = new EatKnown();
    private final Model m = new Model();
    private int facts;
    private int pages;
    private int people;
    private int tasks;
    private final int size;
    private final boolean full;

    private ModelTest(int seed) {
        random = new Random(seed);
        full = seed % 20 == 10;
        size = seed % 10 == 0 ? 12 : 2 + seed % 5;
    }

    public static void main(String[] args) {
        for (int seed = 0; seed < OBJECTS; seed++) {
            new ModelTest(seed).run(seed);
        }
        for (int seed = 0; seed < 400; seed++) {
            new ModelTest(seed).readSoup(seed);
        }
        System.out.println("all runs are as the model says");
    }

    private int below(int n) {
        return random.nextInt(n);
    }

    private String some(char kind, int of) {
        StringBuilder s = new StringBuilder();
        for (int i = 0; i < of; i++) {
            if (below(of) < 2) {
                s.append(' ').append(kind).append((char) ('a' + i));
            }
        }
        return s.length() > 0 ? s.toString() : " " + kind + (char) ('a' + below(of));
    }

    private String formula(String other, int depth) {
        switch (below(depth > 3 ? 3 : 9)) {
            case 0:
                return "heavy";
            case 1:
                return other.isEmpty() ? "heavy" : other;
            case 2:
                return "" + below(12);
            case 3:
                return "not " + formula(other, depth + 1);
            case 4:
                return "(" + formula(other, depth + 1) + ")";
            case 5:
                return "(" + formula(other, depth + 1) + " and " + formula(other, depth + 1) + " or "
                    + formula(other, depth + 1) + ")";
            case 6:
                return "(" + formula(other, depth + 1) + (below(2) == 0 ? "<" : "=") + formula(other, depth + 1) + ")";
            case 7:
                return "(" + formula(other, depth + 1) + "-" + formula(other, depth + 1) + ")";
            default:
                return "(" + formula(other, depth + 1) + "+" + formula(other, depth + 1) + "*"
                    + formula(other, depth + 1) + ")";
        }
    }

    private String libraryText() {
        facts = 1 + below(Math.min(12, size + 2));
        pages = 1 + below(size);
        people = below(6) == 0 ? below(3) : 2 + below(5);
        tasks = below(6);
        if (full) {
            facts = 12;
            pages = 12;
            people = 6;
            tasks = 5;
        }
        StringBuilder s = new StringBuilder();
        for (int i = 0; i < facts; i++) {
            s.append("fact f").append((char) ('a' + i));
            if (i > 0 && below(3) == 0) {
                s.append(" leans").append(some('f', i));
            }
            s.append(';');
        }
        for (int i = 0; i < pages; i++) {
            String kind = below(4) == 0 ? "lie" : below(3) == 0 ? "recipe" : "true";
            s.append("page p").append((char) ('a' + i)).append(' ').append(kind).append(" weigh ")
                .append(1 + below(below(2) == 0 ? 3 : 9)).append(" copies ").append(below(3) == 0 ? below(10) : below(3))
                .append(" says").append(some('f', facts)).append(';');
        }
        for (int i = 0; i < people; i++) {
            s.append("person h").append((char) ('a' + i)).append(" room ").append(below(3) == 0 ? below(41) : 4 + below(9))
                .append(" die ").append(below(3) == 0 ? below(11) : below(3));
            if (i > 0 && below(2) == 0) {
                s.append(" heir h").append((char) ('a' + below(i)));
            }
            s.append(';');
        }
        for (int i = 0; i < tasks; i++) {
            s.append("task t").append((char) ('a' + i)).append(" worth ").append(below(3) == 0 ? below(100) : below(9))
                .append(" needs").append(some('f', facts)).append(';');
        }
        s.append(rest());
        return s.length() > 1000 ? libraryText() : s.toString();
    }

    private String rest() {
        StringBuilder s = new StringBuilder();
        boolean[][] clash = new boolean[facts][facts];
        for (int i = below(4); i > 0 && facts > 1; i--) {
            int a = below(facts);
            int b = below(facts);
            if (a != b && !clash[a][b]) {
                clash[a][b] = true;
                clash[b][a] = true;
                s.append("clash f").append((char) ('a' + a)).append(" f").append((char) ('a' + b)).append(';');
            }
        }
        if (below(2) == 0) {
            s.append("copy ").append(formula("there", 1)).append(';');
        }
        if (below(3) > 0) {
            s.append("bite ").append(formula("has", 1)).append(';');
        }
        if (below(4) > 0) {
            s.append("burn ").append(below(11)).append(';');
        }
        return s.toString();
    }

    private String historyText() {
        StringBuilder s = new StringBuilder();
        for (int i = below(12); i > 0; i--) {
            String h = " h" + (char) ('a' + below(Math.max(1, people)));
            String j = " h" + (char) ('a' + below(Math.max(1, people)));
            String p = " p" + (char) ('a' + below(Math.max(1, pages)));
            switch (below(8)) {
                case 0:
                    s.append("night;");
                    break;
                case 1:
                    s.append("dies").append(h).append(';');
                    break;
                case 2:
                    s.append("copy").append(p).append(';');
                    break;
                case 3:
                case 4:
                    s.append("bite").append(h).append(j).append(p).append(';');
                    break;
                default:
                    s.append("eat").append(h).append(p).append(';');
            }
        }
        return s.toString();
    }

    /** Mostly a number below n, sometimes one just beyond, rarely a wild one. */
    private int number(int n) {
        int dice = below(40);
        if (dice == 0) {
            return random.nextInt();
        }
        return dice == 1 ? -1 : dice == 2 || n < 1 ? n : below(n);
    }

    private void run(int seed) {
        String text = libraryText();
        Check.say(x, text);
        m.say(text);
        same("library", x.library(), m.library());
        for (int call = 0; call < CALLS; call++) {
            act(seed, call);
            ask();
        }
        same("the end of run " + seed, 0, 0);
    }

    private void same(String what, int got, int due) {
        if (got != due) {
            System.out.println(what + " answered " + got + ", the model says " + due);
            check.same(what, got, due);
            check.end();
        }
    }

    private void act(int seed, int call) {
        String run = "run " + seed + ", call " + call + ": ";
        int i = number(people);
        int j = number(people);
        int p = number(pages);
        switch (below(14)) {
            case 0:
            case 1:
            case 2:
            case 3:
                same(run + "eat", x.eat(i, p) ? 1 : 0, m.eat(i, p));
                break;
            case 4:
            case 5:
                same(run + "bite", x.bite(i, j, p), m.bite(i, j, p));
                break;
            case 6:
                same(run + "copy", x.copy(p), m.copy(p));
                break;
            case 7:
                if (below(4) == 0) {
                    same(run + "dies", x.dies(i), m.dies(i));
                }
                break;
            case 8:
                int days = below(8) == 0 ? number(1001) : 1 + below(3);
                same(run + "days", x.days(days), m.days(days));
                break;
            case 9:
                same(run + "undo", x.undo() ? 1 : 0, m.undo());
                break;
            case 10:
                int t = number(tasks);
                boolean can = below(2) == 0;
                same(run + "tell", x.tell(t, can) ? 1 : 0, m.tell(t, can));
                break;
            case 11:
                boolean back = below(2) == 0;
                int mark = number(4);
                same(run + "mark", x.mark(mark, back) ? 1 : 0, m.mark(mark, back));
                break;
            case 12:
                String text = historyText();
                same(run + "feed", Check.say(x, text), m.say(text));
                same(run + "history", x.history(), m.history());
                break;
            default:
                askOften(run);
        }
    }

    private int personOf(int i, int what) {
        try {
            return x.person(i, what);
        } catch (java.util.NoSuchElementException e) {
            return -99;
        }
    }

    private void ask() {
        int w = number(13);
        same("count " + w, x.count(w), m.count(w));
        int f = number(facts);
        w = number(3);
        same("fact " + f + " " + w, x.fact(f, w), m.fact(f, w));
        int p = number(pages);
        w = number(5);
        same("page " + p + " " + w, x.page(p, w), m.page(p, w));
        int i = number(people);
        w = number(9);
        same("person " + i + " " + w, personOf(i, w), m.person(i, w));
        int t = number(tasks);
        w = number(3);
        same("task " + t + " " + w, x.task(t, w), m.task(t, w));
        same("lost", x.lost(), m.lost());
    }

    private void askOften(String run) {
        int w = number(3);
        same(run + "judged " + w, x.judged(w), m.judged(w));
        int i = number(people);
        int t = number(tasks);
        w = number(2);
        same(run + "meal " + i + " " + t + " " + w, x.meal(i, t, w), m.meal(i, t, w));
        w = number(7);
        same(run + "safe " + w, x.safe(w), m.safe(w));
        same(run + "sit " + t, x.sit(t), m.sit(t));
        same(run + "evenings", x.evenings(), m.evenings());
        int weight = below(3) == 0 ? number(201) : below(20);
        w = number(4);
        same(run + "guessed " + weight + " " + w, x.guessed(weight, w), m.guessed(weight, w));
        same(run + "unlearn " + i, x.unlearn(i), m.unlearn(i));
        w = number(4);
        same(run + "lies " + w, x.lies(w), m.lies(w));
        int group = number(1 << people);
        w = below(3) - 1;
        w = below(4) == 0 ? number(200) : w;
        same(run + "rests " + group + " " + w, x.rests(group, w), m.rests(group, w));
        int many = pages > 6 ? below(3) : number(5);
        w = number(many + 1);
        same(run + "hands " + many + " " + w, x.hands(many, w), m.hands(many, w));
        int p = number(pages);
        w = number(2);
        same(run + "price " + p + " " + w, x.price(p, w), m.price(p, w));
        int seed = number(10000);
        int days = number(61);
        w = number(3);
        same(run + "years " + seed + " " + days + " " + w, x.years(seed, days, w), m.years(seed, days, w));
    }

    /** A text with a token or two put in, left out, or changed: the faults must be alike. */
    private void readSoup(int seed) {
        String[] words = {"fact", "leans", "page", "weigh", "copies", "says", "clash", "person", "room", "die", "heir",
            "task", "worth", "needs", "copy", "bite", "burn", "true", "lie", "recipe", "eat", "dies", "night", "not",
            "and", "or", "heavy", "there", "has", "fa", "fb", "pa", "pb", "ha", "hb", "ta", "zz", "abcdefgh",
            "abcdefghi", "0", "1", "9", "10", "41", "99", "100", "1234", "12345", "(", ")", "<", "=", "+", "-", "*",
            ";", ";", "!", "A", ",", "\n", "1a", "a1", "fact fz;", "person hz room 1 die 1;", "not not"};
        String text = libraryText();
        Check.say(x, text);
        m.say(text);
        same("library of soup " + seed, x.library(), m.library());
        for (int round = 0; round < 30; round++) {
            boolean history = round % 3 == 2;
            StringBuilder s = new StringBuilder(history ? historyText() + historyText() : libraryText());
            for (int k = below(3); k >= 0; k--) {
                int at = s.length() == 0 ? 0 : below(s.length());
                if (below(3) == 0) {
                    s.delete(at, Math.min(s.length(), at + 1 + below(4)));
                } else {
                    s.insert(at, (below(2) == 0 ? " " : "") + words[below(words.length)] + (below(2) == 0 ? " " : ""));
                }
            }
            same("feed", Check.say(x, s.toString()), m.say(s.toString()));
            String what = "run " + seed + ": " + s;
            same(what, history ? x.history() : x.library(), history ? m.history() : m.library());
            for (int w = 0; w < 13; w++) {
                same(what + " count " + w, x.count(w), m.count(w));
            }
        }
    }
}
