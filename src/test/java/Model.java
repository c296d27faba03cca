import java.util.ArrayList;
import java.util.HashMap;
import java.util.HashSet;
import java.util.LinkedList;
import java.util.List;
import java.util.Map;
import java.util.Set;
import java.util.TreeSet;

/**
 * The document once more, told plainly with sets and lists: it tries all that there is, and serves as a second
 * opinion on what EatKnown answers.
 */
final class Model {
    static final Set<String> RESERVED = Set.of("fact", "leans", "page", "weigh", "copies", "says", "clash", "person",
        "room", "die", "heir", "task", "worth", "needs", "copy", "bite", "burn", "true", "lie", "recipe", "eat",
        "dies", "night", "not", "and", "or");

    static final class Fault extends RuntimeException {
        private static final long serialVersionUID = 1;
        final int kind;
        final int place;

        Fault(int kind, int place) {
            this.kind = kind;
            this.place = place;
        }
    }

    record Token(String text, int place) {
        boolean isWord() {
            return text.matches("[a-z]{1,8}");
        }

        boolean isNumber() {
            return text.matches("[0-9]{1,4}");
        }

        boolean isName() {
            return isWord() && !RESERVED.contains(text);
        }
    }

    static List<Token> tokens(String text) {
        List<Token> found = new ArrayList<>();
        var m = java.util.regex.Pattern.compile("[a-z]+|[0-9]+|[^ \n]").matcher(text);
        while (m.find()) {
            found.add(new Token(m.group(), m.start()));
        }
        found.add(new Token("", text.length()));
        return found;
    }

    interface Value {
        int of(int heavy, int other);
    }

    record Fact(String name, Set<Integer> leans) { }

    record Page(String name, String kind, int weigh, int copies, Set<Integer> says) {
        boolean lie() {
            return kind.equals("lie");
        }
    }

    record Person(String name, int room, int die, int heir) { }

    record Task(String name, int worth, Set<Integer> needs) { }

    record Line(String act, int who, int whom, int page) { }

    static final class Book {
        final List<Fact> facts = new ArrayList<>();
        final List<Page> pages = new ArrayList<>();
        final List<Person> people = new ArrayList<>();
        final List<Task> tasks = new ArrayList<>();
        final Set<Set<Integer>> clashes = new HashSet<>();
        Value copy = (heavy, there) -> heavy;
        Value bite = (heavy, has) -> 0;
        int burn = 0;

        int find(List<?> list, String name) {
            for (int i = 0; i < list.size(); i++) {
                if (nameOf(list.get(i)).equals(name)) {
                    return i;
                }
            }
            return -1;
        }

        static String nameOf(Object o) {
            if (o instanceof Fact f) {
                return f.name();
            } else if (o instanceof Page p) {
                return p.name();
            } else if (o instanceof Person p) {
                return p.name();
            }
            return ((Task) o).name();
        }

        boolean told(String name) {
            return find(facts, name) >= 0 || find(pages, name) >= 0 || find(people, name) >= 0
                || find(tasks, name) >= 0;
        }
    }

    /** A reader of either language. */
    static final class Parser {
        final List<Token> tokens;
        int at = 0;
        final Book book;

        Parser(String text, Book book) {
            tokens = tokens(text);
            this.book = book;
        }

        Token here() {
            return tokens.get(at);
        }

        boolean is(String text) {
            return here().text().equals(text);
        }

        boolean atEnd() {
            return here().text().isEmpty();
        }

        Fault fault(int kind) {
            return new Fault(kind, here().place());
        }

        void word(String text) {
            if (!is(text)) {
                throw fault(1);
            }
            at++;
        }

        int number(int least, int most) {
            if (!here().isNumber()) {
                throw fault(1);
            }
            int n = Integer.parseInt(here().text());
            if (n < least || n > most) {
                throw fault(4);
            }
            at++;
            return n;
        }

        int known(List<?> list) {
            if (!here().isName()) {
                throw fault(1);
            }
            int found = book.find(list, here().text());
            if (found < 0) {
                throw fault(2);
            }
            return found;
        }

        String fresh() {
            if (!here().isName()) {
                throw fault(1);
            }
            if (book.told(here().text())) {
                throw fault(3);
            }
            return tokens.get(at++).text();
        }

        Set<Integer> facts() {
            Set<Integer> set = new TreeSet<>();
            do {
                int f = known(book.facts);
                if (!set.add(f)) {
                    throw fault(3);
                }
                at++;
            } while (!is(";"));
            return set;
        }

        void counted(List<?> list, int most) {
            if (list.size() == most) {
                throw fault(5);
            }
            at++;
        }

        void library() {
            Set<String> once = new HashSet<>();
            while (!atEnd()) {
                String what = here().text();
                if (Set.of("copy", "bite", "burn").contains(what)) {
                    if (!once.add(what)) {
                        throw fault(3);
                    }
                    at++;
                }
                switch (what) {
                    case "fact" -> {
                        counted(book.facts, 12);
                        String name = fresh();
                        Set<Integer> leans = new TreeSet<>();
                        if (is("leans")) {
                            at++;
                            leans = facts();
                        }
                        word(";");
                        book.facts.add(new Fact(name, leans));
                    }
                    case "page" -> {
                        counted(book.pages, 12);
                        String name = fresh();
                        String kind = here().text();
                        if (!Set.of("true", "lie", "recipe").contains(kind)) {
                            throw fault(1);
                        }
                        at++;
                        word("weigh");
                        int weigh = number(1, 9);
                        word("copies");
                        int copies = number(0, 9);
                        word("says");
                        Set<Integer> says = facts();
                        word(";");
                        book.pages.add(new Page(name, kind, weigh, copies, says));
                    }
                    case "clash" -> {
                        at++;
                        int a = known(book.facts);
                        at++;
                        int b = known(book.facts);
                        if (a == b || book.clashes.contains(Set.of(a, b))) {
                            throw fault(3);
                        }
                        at++;
                        word(";");
                        book.clashes.add(Set.of(a, b));
                    }
                    case "person" -> {
                        counted(book.people, 6);
                        String name = fresh();
                        word("room");
                        int room = number(0, 40);
                        word("die");
                        int die = number(0, 10);
                        int heir = -1;
                        if (is("heir")) {
                            at++;
                            heir = known(book.people);
                            at++;
                        }
                        word(";");
                        book.people.add(new Person(name, room, die, heir));
                    }
                    case "task" -> {
                        counted(book.tasks, 5);
                        String name = fresh();
                        word("worth");
                        int worth = number(0, 99);
                        word("needs");
                        Set<Integer> needs = facts();
                        word(";");
                        book.tasks.add(new Task(name, worth, needs));
                    }
                    case "copy" -> {
                        book.copy = tests("there", 0);
                        word(";");
                    }
                    case "bite" -> {
                        book.bite = tests("has", 0);
                        word(";");
                    }
                    case "burn" -> {
                        book.burn = number(0, 10);
                        word(";");
                    }
                    default -> throw fault(1);
                }
            }
        }

        Value tests(String other, int depth) {
            Value left = test(other, depth);
            while (is("and") || is("or")) {
                boolean and = is("and");
                at++;
                Value a = left;
                Value b = test(other, depth);
                left = and ? (h, o) -> a.of(h, o) != 0 && b.of(h, o) != 0 ? 1 : 0
                    : (h, o) -> a.of(h, o) != 0 || b.of(h, o) != 0 ? 1 : 0;
            }
            return left;
        }

        Value test(String other, int depth) {
            Value a = sum(other, depth);
            if (is("<")) {
                at++;
                Value b = sum(other, depth);
                return (h, o) -> a.of(h, o) < b.of(h, o) ? 1 : 0;
            } else if (is("=")) {
                at++;
                Value b = sum(other, depth);
                return (h, o) -> a.of(h, o) == b.of(h, o) ? 1 : 0;
            }
            return a;
        }

        Value sum(String other, int depth) {
            Value left = product(other, depth);
            while (is("+") || is("-")) {
                int sign = is("+") ? 1 : -1;
                at++;
                Value a = left;
                Value b = product(other, depth);
                left = (h, o) -> a.of(h, o) + sign * b.of(h, o);
            }
            return left;
        }

        Value product(String other, int depth) {
            Value left = part(other, depth);
            while (is("*")) {
                at++;
                Value a = left;
                Value b = part(other, depth);
                left = (h, o) -> a.of(h, o) * b.of(h, o);
            }
            return left;
        }

        Value part(String other, int depth) {
            boolean fits = here().isNumber() || is("not") || is("(") || is("heavy") || is(other);
            if (!fits) {
                throw fault(1);
            }
            if (depth == 5) {
                throw fault(5);
            }
            Token t = tokens.get(at++);
            if (t.text().equals("not")) {
                Value a = part(other, depth + 1);
                return (h, o) -> a.of(h, o) == 0 ? 1 : 0;
            } else if (t.text().equals("(")) {
                Value a = tests(other, depth + 1);
                word(")");
                return a;
            } else if (t.text().equals("heavy")) {
                return (h, o) -> h;
            } else if (t.text().equals(other)) {
                return (h, o) -> o;
            }
            int n = Integer.parseInt(t.text());
            return (h, o) -> n;
        }

        List<Line> history() {
            List<Line> lines = new ArrayList<>();
            while (!atEnd()) {
                String act = here().text();
                if (!Set.of("eat", "bite", "copy", "dies", "night").contains(act)) {
                    throw fault(1);
                }
                if (lines.size() == 24) {
                    throw fault(5);
                }
                at++;
                int who = -1;
                int whom = -1;
                int page = -1;
                if (act.equals("eat") || act.equals("bite") || act.equals("dies")) {
                    who = known(book.people);
                    at++;
                }
                if (act.equals("bite")) {
                    whom = known(book.people);
                    at++;
                }
                if (act.equals("eat") || act.equals("bite") || act.equals("copy")) {
                    page = known(book.pages);
                    at++;
                }
                word(";");
                lines.add(new Line(act, who, whom, page));
            }
            return lines;
        }
    }

    /** Who is alive, has eaten what, and so on. */
    static final class World {
        final List<Set<Integer>> eaten = new ArrayList<>();
        final List<Integer> used = new ArrayList<>();
        final List<Integer> copies = new ArrayList<>();
        final Set<Integer> alive = new TreeSet<>();
        int day = 0;
        int spent = 0;

        World(Book book) {
            for (int i = 0; i < book.people.size(); i++) {
                eaten.add(new TreeSet<>());
                used.add(0);
                alive.add(i);
            }
            for (Page p : book.pages) {
                copies.add(p.copies());
            }
        }

        World(World w) {
            for (Set<Integer> s : w.eaten) {
                eaten.add(new TreeSet<>(s));
            }
            used.addAll(w.used);
            copies.addAll(w.copies);
            alive.addAll(w.alive);
            day = w.day;
            spent = w.spent;
        }
    }

    final StringBuilder tape = new StringBuilder();
    Book book = new Book();
    World world = new World(book);
    List<Line> lines = new ArrayList<>();
    List<int[]> told = new ArrayList<>();
    final LinkedList<World> undo = new LinkedList<>();
    final Map<Integer, Object[]> marks = new HashMap<>();

    int say(String text) {
        for (char c : text.toCharArray()) {
            if ((c == 10 || c >= 32 && c <= 126) && tape.length() < 1000) {
                tape.append(c);
            }
        }
        return tape.length();
    }

    private String take() {
        String text = tape.toString();
        tape.setLength(0);
        return text;
    }

    int library() {
        Book fresh = new Book();
        try {
            new Parser(take(), fresh).library();
        } catch (Fault f) {
            return f.kind + 16 * f.place;
        }
        book = fresh;
        world = new World(book);
        lines = new ArrayList<>();
        told = new ArrayList<>();
        undo.clear();
        marks.clear();
        return 0;
    }

    int history() {
        try {
            lines = new Parser(take(), book).history();
        } catch (Fault f) {
            return f.kind + 16 * f.place;
        }
        return 0;
    }

    static int bits(Set<Integer> set) {
        int b = 0;
        for (int i : set) {
            b |= 1 << i;
        }
        return b;
    }

    static Set<Integer> set(int bits) {
        Set<Integer> s = new TreeSet<>();
        for (int i = 0; i < 32; i++) {
            if ((bits >>> i & 1) != 0) {
                s.add(i);
            }
        }
        return s;
    }

    private Set<Integer> facts(Set<Integer> pages, boolean liesToo) {
        Set<Integer> s = new TreeSet<>();
        for (int p : pages) {
            if (liesToo || !book.pages.get(p).lie()) {
                s.addAll(book.pages.get(p).says());
            }
        }
        return s;
    }

    /** From the inside out: a fact that he knows is understood as soon as all on which it leans is. */
    private Set<Integer> understood(Set<Integer> known) {
        Set<Integer> s = new TreeSet<>();
        boolean more = true;
        while (more) {
            more = false;
            for (int f : known) {
                if (!s.contains(f) && s.containsAll(book.facts.get(f).leans())) {
                    s.add(f);
                    more = true;
                }
            }
        }
        return s;
    }

    private Set<Integer> tasks(Set<Integer> known) {
        Set<Integer> u = understood(known);
        Set<Integer> s = new TreeSet<>();
        for (int t = 0; t < book.tasks.size(); t++) {
            if (u.containsAll(book.tasks.get(t).needs())) {
                s.add(t);
            }
        }
        return s;
    }

    private Set<Integer> tasksOfEaten(Set<Integer> pages) {
        return tasks(facts(pages, false));
    }

    private int worth(Set<Integer> pages) {
        int sum = 0;
        for (int t : tasksOfEaten(pages)) {
            sum += book.tasks.get(t).worth();
        }
        return sum;
    }

    private Set<Integer> lost(World w) {
        Set<Integer> s = new TreeSet<>();
        for (int f = 0; f < book.facts.size(); f++) {
            boolean kept = false;
            for (int i : w.alive) {
                kept |= facts(w.eaten.get(i), false).contains(f);
            }
            for (int p = 0; p < book.pages.size(); p++) {
                Page page = book.pages.get(p);
                kept |= !page.lie() && w.copies.get(p) > 0 && page.says().contains(f);
            }
            if (!kept) {
                s.add(f);
            }
        }
        return s;
    }

    private boolean isPage(int p) {
        return p >= 0 && p < book.pages.size();
    }

    private boolean roomFor(World w, int i, int p) {
        return w.used.get(i) + book.pages.get(p).weigh() <= book.people.get(i).room();
    }

    private void swallow(World w, int i, int p) {
        w.eaten.get(i).add(p);
        w.used.set(i, w.used.get(i) + book.pages.get(p).weigh());
    }

    private boolean eat(World w, int i, int p) {
        if (!w.alive.contains(i) || !isPage(p) || w.copies.get(p) == 0 || w.eaten.get(i).contains(p)
            || !roomFor(w, i, p)) {
            return false;
        }
        swallow(w, i, p);
        if (!book.pages.get(p).kind().equals("recipe")) {
            w.copies.set(p, w.copies.get(p) - 1);
        }
        return true;
    }

    private int bite(World w, int i, int j, int p) {
        if (!w.alive.contains(i) || !w.alive.contains(j) || i == j || !isPage(p) || !w.eaten.get(j).contains(p)
            || w.eaten.get(i).contains(p) || !roomFor(w, i, p)) {
            return -1;
        }
        int others = book.bite.of(book.pages.get(p).weigh(), w.eaten.get(j).size());
        swallow(w, i, p);
        w.eaten.get(j).remove(p);
        int gone = 1;
        for (int k = 0; k < others && !w.eaten.get(j).isEmpty(); k++) {
            w.eaten.get(j).remove(((TreeSet<Integer>) w.eaten.get(j)).first());
            gone++;
        }
        return gone;
    }

    private int copy(World w, int p) {
        if (!isPage(p) || w.copies.get(p) < 1 || w.copies.get(p) > 8) {
            return -1;
        }
        int cost = book.copy.of(book.pages.get(p).weigh(), w.copies.get(p));
        cost = cost < 0 ? 0 : cost > 99 ? 99 : cost;
        w.copies.set(p, w.copies.get(p) + 1);
        w.spent += cost;
        return cost;
    }

    private int dies(World w, int i) {
        if (!w.alive.remove(i)) {
            return -1;
        }
        int heir = book.people.get(i).heir();
        int got = 0;
        if (w.alive.contains(heir)) {
            for (int p : w.eaten.get(i)) {
                if (!w.eaten.get(heir).contains(p) && roomFor(w, heir, p)) {
                    swallow(w, heir, p);
                    got |= 1 << p;
                }
            }
        }
        return got;
    }

    private void day(World w) {
        w.day++;
        for (int i = 0; i < w.used.size(); i++) {
            w.used.set(i, 0);
        }
    }

    private void keep(World w) {
        undo.addLast(w);
        if (undo.size() > 16) {
            undo.removeFirst();
        }
    }

    int fact(int f, int what) {
        if (f < 0 || f >= book.facts.size() || what < 0 || what > 2) {
            return -1;
        }
        if (what == 0) {
            return bits(book.facts.get(f).leans());
        }
        Set<Integer> s = new TreeSet<>();
        if (what == 1) {
            for (Set<Integer> pair : book.clashes) {
                if (pair.contains(f)) {
                    s.addAll(pair);
                }
            }
            s.remove(f);
            return bits(s);
        }
        for (int p = 0; p < book.pages.size(); p++) {
            if (book.pages.get(p).says().contains(f)) {
                s.add(p);
            }
        }
        return bits(s);
    }

    int page(int p, int what) {
        if (!isPage(p) || what < 0 || what > 4) {
            return -1;
        }
        Page page = book.pages.get(p);
        Set<Integer> eaters = new TreeSet<>();
        for (int i : world.alive) {
            if (world.eaten.get(i).contains(p)) {
                eaters.add(i);
            }
        }
        return switch (what) {
            case 0 -> page.lie() ? 1 : page.kind().equals("true") ? 0 : 2;
            case 1 -> page.weigh();
            case 2 -> world.copies.get(p);
            case 3 -> bits(page.says());
            default -> bits(eaters);
        };
    }

    /** -99 stands for the exception. */
    int person(int i, int what) {
        if (i < 0 || i >= book.people.size() || what < 0 || what > 8) {
            return -99;
        }
        Set<Integer> eaten = world.eaten.get(i);
        return switch (what) {
            case 0 -> world.alive.contains(i) ? 1 : 0;
            case 1 -> book.people.get(i).room();
            case 2 -> book.people.get(i).room() - world.used.get(i);
            case 3 -> book.people.get(i).heir();
            case 4 -> bits(eaten);
            case 5 -> bits(facts(eaten, false));
            case 6 -> bits(understood(facts(eaten, false)));
            case 7 -> bits(facts(eaten, true));
            default -> bits(tasksOfEaten(eaten));
        };
    }

    int task(int t, int what) {
        if (t < 0 || t >= book.tasks.size() || what < 0 || what > 2) {
            return -1;
        }
        if (what < 2) {
            return what == 0 ? book.tasks.get(t).worth() : bits(book.tasks.get(t).needs());
        }
        Set<Integer> s = new TreeSet<>();
        for (int i : world.alive) {
            if (tasksOfEaten(world.eaten.get(i)).contains(t)) {
                s.add(i);
            }
        }
        return bits(s);
    }

    int eat(int i, int p) {
        World w = new World(world);
        if (eat(world, i, p)) {
            keep(w);
            return 1;
        }
        return 0;
    }

    int bite(int i, int j, int p) {
        World w = new World(world);
        int got = bite(world, i, j, p);
        if (got != -1) {
            keep(w);
        }
        return got;
    }

    int copy(int p) {
        World w = new World(world);
        int got = copy(world, p);
        if (got != -1) {
            keep(w);
        }
        return got;
    }

    int dies(int i) {
        World w = new World(world);
        int got = dies(world, i);
        if (got != -1) {
            keep(w);
        }
        return got;
    }

    int days(int many) {
        if (many < 1 || many > 1000) {
            return -1;
        }
        keep(new World(world));
        for (int i = 0; i < many; i++) {
            day(world);
        }
        return world.day;
    }

    int undo() {
        if (undo.isEmpty()) {
            return 0;
        }
        world = undo.removeLast();
        return 1;
    }

    int lost() {
        return bits(lost(world));
    }

    int judged(int what) {
        if (what < 0 || what > 2) {
            return -2;
        }
        World w = new World(book);
        Set<Integer> first = lost(w);
        int wrong = -1;
        int loss = -1;
        for (int k = 0; k < lines.size(); k++) {
            Line l = lines.get(k);
            boolean done = switch (l.act()) {
                case "eat" -> eat(w, l.who(), l.page());
                case "bite" -> bite(w, l.who(), l.whom(), l.page()) != -1;
                case "copy" -> copy(w, l.page()) != -1;
                case "dies" -> dies(w, l.who()) != -1;
                default -> true;
            };
            if (l.act().equals("night")) {
                day(w);
            }
            if (!done && wrong < 0) {
                wrong = k;
            }
            if (loss < 0 && !first.containsAll(lost(w))) {
                loss = k;
            }
        }
        return what == 0 ? wrong : what == 1 ? loss : bits(lost(w));
    }

    private int weight(Set<Integer> pages) {
        int sum = 0;
        for (int p : pages) {
            sum += book.pages.get(p).weigh();
        }
        return sum;
    }

    private List<Set<Integer>> subsets(Set<Integer> of) {
        List<Set<Integer>> all = new ArrayList<>();
        for (int b = 0; b <= bits(of); b++) {
            if (of.containsAll(set(b))) {
                all.add(set(b));
            }
        }
        return all;
    }

    private Set<Integer> stock(World w) {
        Set<Integer> s = new TreeSet<>();
        for (int p = 0; p < w.copies.size(); p++) {
            if (w.copies.get(p) > 0) {
                s.add(p);
            }
        }
        return s;
    }

    private static Set<Integer> join(Set<Integer> a, Set<Integer> b) {
        Set<Integer> s = new TreeSet<>(a);
        s.addAll(b);
        return s;
    }

    private static Set<Integer> less(Set<Integer> a, Set<Integer> b) {
        Set<Integer> s = new TreeSet<>(a);
        s.removeAll(b);
        return s;
    }

    private Set<Integer> noLies(Set<Integer> pages) {
        Set<Integer> s = new TreeSet<>(pages);
        s.removeIf(p -> book.pages.get(p).lie());
        return s;
    }

    int meal(int i, int t, int what) {
        if (!world.alive.contains(i) || t < 0 || t >= book.tasks.size() || what < 0 || what > 1) {
            return -1;
        }
        Set<Integer> best = null;
        for (Set<Integer> s : subsets(less(stock(world), world.eaten.get(i)))) {
            if (tasksOfEaten(join(world.eaten.get(i), s)).contains(t)) {
                boolean better = best == null || weight(s) < weight(best)
                    || weight(s) == weight(best) && s.size() < best.size();
                best = better ? s : best;
            }
        }
        return best == null ? -1 : what == 0 ? weight(best) : bits(best);
    }

    int safe(int deaths) {
        if (deaths < 0 || deaths > 6) {
            return -1;
        }
        Set<Integer> must = new TreeSet<>();
        for (int f = 0; f < book.facts.size(); f++) {
            int knowing = 0;
            for (int i : world.alive) {
                knowing += facts(world.eaten.get(i), false).contains(f) ? 1 : 0;
            }
            if (knowing <= deaths && !lost(world).contains(f)) {
                must.add(f);
            }
        }
        Set<Integer> best = null;
        for (Set<Integer> s : subsets(noLies(stock(world)))) {
            if (facts(s, true).containsAll(must) && (best == null || s.size() < best.size())) {
                best = s;
            }
        }
        return best == null ? -1 : bits(best);
    }

    private boolean groupCan(Set<Integer> group, int t) {
        Set<Integer> known = new TreeSet<>();
        for (int i : group) {
            known.addAll(facts(world.eaten.get(i), false));
        }
        return tasks(known).contains(t);
    }

    int sit(int t) {
        if (t < 0 || t >= book.tasks.size()) {
            return -1;
        }
        Set<Integer> best = null;
        for (Set<Integer> s : subsets(world.alive)) {
            if (groupCan(s, t) && (best == null || s.size() < best.size())) {
                best = s;
            }
        }
        return best == null ? -1 : bits(best);
    }

    /** Puts each task in turn on one of the evenings so far or on a new one. */
    int evenings() {
        List<Integer> able = new ArrayList<>();
        for (int t = 0; t < book.tasks.size(); t++) {
            if (groupCan(world.alive, t)) {
                able.add(t);
            }
        }
        return place(able, 0, new ArrayList<>());
    }

    private int place(List<Integer> able, int k, List<List<Integer>> evenings) {
        if (k == able.size()) {
            return evenings.size();
        }
        int best = 99;
        for (int e = 0; e <= evenings.size(); e++) {
            List<List<Integer>> next = new ArrayList<>();
            for (List<Integer> l : evenings) {
                next.add(new ArrayList<>(l));
            }
            if (e == evenings.size()) {
                next.add(new ArrayList<>());
            }
            next.get(e).add(able.get(k));
            if (apart(next.get(e), world.alive)) {
                best = Math.min(best, place(able, k + 1, next));
            }
        }
        return best;
    }

    private boolean apart(List<Integer> tasks, Set<Integer> people) {
        if (tasks.isEmpty()) {
            return true;
        }
        for (Set<Integer> s : subsets(people)) {
            if (groupCan(s, tasks.get(0)) && apart(tasks.subList(1, tasks.size()), less(people, s))) {
                return true;
            }
        }
        return false;
    }

    int tell(int t, boolean can) {
        if (t < 0 || t >= book.tasks.size() || told.size() >= 12) {
            return 0;
        }
        told.add(new int[] {t, can ? 1 : 0});
        return 1;
    }

    private Set<Integer> allPages() {
        Set<Integer> s = new TreeSet<>();
        for (int p = 0; p < book.pages.size(); p++) {
            s.add(p);
        }
        return s;
    }

    int guessed(int weight, int what) {
        if (weight < 0 || weight > 200 || what < 0 || what > 3) {
            return -1;
        }
        List<Set<Integer>> fits = new ArrayList<>();
        for (Set<Integer> s : subsets(noLies(allPages()))) {
            boolean ok = weight(s) <= weight;
            for (int[] l : told) {
                ok &= tasksOfEaten(s).contains(l[0]) == (l[1] == 1);
            }
            if (ok) {
                fits.add(s);
            }
        }
        if (fits.isEmpty()) {
            return -1;
        }
        Set<Integer> all = new TreeSet<>(fits.get(0));
        Set<Integer> some = new TreeSet<>();
        for (Set<Integer> s : fits) {
            all.retainAll(s);
            some.addAll(s);
        }
        int best = -1;
        int most = 0;
        for (int t = 0; t < book.tasks.size(); t++) {
            int yes = 0;
            int no = 0;
            for (Set<Integer> s : fits) {
                if (tasksOfEaten(s).contains(t)) {
                    yes++;
                } else {
                    no++;
                }
            }
            if (Math.min(yes, no) > most) {
                most = Math.min(yes, no);
                best = t;
            }
        }
        return what == 0 ? fits.size() : what == 1 ? bits(all) : what == 2 ? bits(some) : best;
    }

    private List<Set<Integer>> cures(Set<Integer> pages) {
        List<Set<Integer>> cures = new ArrayList<>();
        for (Set<Integer> s : subsets(pages)) {
            Set<Integer> said = facts(less(pages, s), true);
            boolean torn = false;
            for (Set<Integer> pair : book.clashes) {
                torn |= said.containsAll(pair);
            }
            if (!torn) {
                if (!cures.isEmpty() && s.size() < cures.get(0).size()) {
                    cures.clear();
                }
                if (cures.isEmpty() || s.size() == cures.get(0).size()) {
                    cures.add(s);
                }
            }
        }
        return cures;
    }

    int unlearn(int i) {
        return i < 0 || i >= book.people.size() ? -1 : bits(cures(world.eaten.get(i)).get(0));
    }

    int lies(int what) {
        List<Set<Integer>> cures = cures(allPages());
        Set<Integer> all = new TreeSet<>(cures.get(0));
        for (Set<Integer> s : cures) {
            all.retainAll(s);
        }
        return what == 0 ? cures.get(0).size() : what == 1 ? bits(cures.get(0)) : what == 2 ? cures.size()
            : what == 3 ? bits(all) : -1;
    }

    private int[] outcome(List<Integer> who, int[] choice) {
        World w = new World(world);
        int[] has = new int[who.size()];
        for (int k = 0; k < who.size(); k++) {
            boolean ate = choice[k] > 0 && eat(w, who.get(k), choice[k] - 1);
            has[k] = worth(w.eaten.get(who.get(k))) - (ate ? book.pages.get(choice[k] - 1).weigh() : 0);
        }
        return has;
    }

    /** Plays every game of choices, and every other choice of each. */
    int rests(int people, int what) {
        List<Integer> who = new ArrayList<>(set(people));
        if (who.size() < 2 || who.size() > 3 || !world.alive.containsAll(who) || what < -1) {
            return -1;
        }
        int n = book.pages.size() + 1;
        int games = (int) Math.round(Math.pow(n, who.size()));
        List<Integer> rests = new ArrayList<>();
        for (int g = 0; g < games; g++) {
            int[] choice = new int[who.size()];
            int code = 0;
            for (int k = who.size() - 1, left = g; k >= 0; k--, left /= n) {
                choice[k] = left % n;
            }
            for (int c : choice) {
                code = code * 13 + c;
            }
            int[] has = outcome(who, choice);
            boolean rest = true;
            for (int k = 0; k < choice.length && rest; k++) {
                for (int c = 0; c < n && rest; c++) {
                    int[] other = choice.clone();
                    other[k] = c;
                    rest = outcome(who, other)[k] <= has[k];
                }
            }
            if (rest) {
                rests.add(code);
            }
        }
        return what == -1 ? rests.size() : what < rests.size() ? rests.get(what) : -1;
    }

    private int kept(List<Integer> copies) {
        long sum = 0;
        for (int f = 0; f < book.facts.size(); f++) {
            if (lost(world).contains(f)) {
                continue;
            }
            boolean known = false;
            for (int i : world.alive) {
                known |= facts(world.eaten.get(i), false).contains(f);
            }
            long loss = 1_000_000_000L;
            for (int p = 0; p < copies.size(); p++) {
                if (!book.pages.get(p).lie() && copies.get(p) > 0 && book.pages.get(p).says().contains(f)) {
                    long gone = 1_000_000_000L;
                    for (int c = 0; c < copies.get(p); c++) {
                        gone = gone * book.burn / 10;
                    }
                    loss = loss * gone / 1_000_000_000L;
                }
            }
            sum += known ? 1_000_000_000L : 1_000_000_000L - loss;
        }
        return (int) (sum / 1000);
    }

    /** Every row of pages, in any order, that can be copied so; of those with the lesser ahead the first. */
    int hands(int many, int what) {
        if (many < 0 || many > 4 || what < 0 || what > many) {
            return -1;
        }
        List<List<Integer>> rows = new ArrayList<>();
        rows.add(new ArrayList<>());
        for (int k = 0; k < many; k++) {
            List<List<Integer>> longer = new ArrayList<>();
            for (List<Integer> row : rows) {
                for (int p = 0; p < book.pages.size(); p++) {
                    int q = p;
                    int added = (int) row.stream().filter(x -> x == q).count();
                    boolean ahead = row.isEmpty() || row.get(row.size() - 1) <= p;
                    if (ahead && world.copies.get(p) > 0 && world.copies.get(p) + added < 9) {
                        List<Integer> next = new ArrayList<>(row);
                        next.add(p);
                        longer.add(next);
                    }
                }
            }
            rows = longer;
        }
        int best = -1;
        List<Integer> bestRow = null;
        for (List<Integer> row : rows) {
            List<Integer> copies = new ArrayList<>(world.copies);
            for (int p : row) {
                copies.set(p, copies.get(p) + 1);
            }
            int k = kept(copies);
            if (k > best) {
                best = k;
                bestRow = row;
            }
        }
        return bestRow == null ? -1 : what == 0 ? best : bestRow.get(what - 1);
    }

    int price(int p, int what) {
        if (!isPage(p) || what < 0 || what > 1) {
            return -1;
        }
        int most = -1;
        int who = -1;
        for (int i : world.alive) {
            int more = worth(join(world.eaten.get(i), Set.of(p))) - worth(world.eaten.get(i));
            if (more > most) {
                most = more;
                who = i;
            }
        }
        return what == 0 ? most : who;
    }

    int years(int seed, int days, int what) {
        if (seed < 0 || seed > 9999 || days < 1 || days > 60 || what < 0 || what > 2) {
            return -1;
        }
        World w = new World(world);
        long[] g = {seed};
        int ate = 0;
        int deaths = 0;
        for (int d = 0; d < days; d++) {
            for (int i : new ArrayList<>(w.alive)) {
                if (!book.pages.isEmpty()) {
                    ate += eat(w, i, draw(g, book.pages.size())) ? 1 : 0;
                }
            }
            for (int i : new ArrayList<>(w.alive)) {
                if (draw(g, 10) < book.people.get(i).die()) {
                    dies(w, i);
                    deaths++;
                }
            }
            day(w);
        }
        return what == 0 ? ate : what == 1 ? deaths : lost(w).size();
    }

    private static int draw(long[] g, int below) {
        g[0] = (g[0] * 1103515245L + 12345L) % 2147483648L;
        return (int) (g[0] / 65536L % below);
    }

    int mark(int m, boolean back) {
        if (m < 0 || m > 3 || back && !marks.containsKey(m)) {
            return 0;
        }
        if (back) {
            Object[] held = marks.get(m);
            world = new World((World) held[0]);
            lines = cast(held[1]);
            told = new ArrayList<>(Model.<List<int[]>>cast(held[2]));
            undo.clear();
        } else {
            marks.put(m, new Object[] {new World(world), lines, new ArrayList<>(told)});
        }
        return 1;
    }

    @SuppressWarnings("unchecked")
    private static <T> T cast(Object o) {
        return (T) o;
    }

    int count(int what) {
        int copies = 0;
        for (int c : world.copies) {
            copies += c;
        }
        return switch (what) {
            case 0 -> book.facts.size();
            case 1 -> book.pages.size();
            case 2 -> book.people.size();
            case 3 -> book.tasks.size();
            case 4 -> world.alive.size();
            case 5 -> copies;
            case 6 -> world.day;
            case 7 -> world.spent;
            case 8 -> lines.size();
            case 9 -> told.size();
            case 10 -> book.burn;
            case 11 -> undo.size();
            case 12 -> tape.length();
            default -> -1;
        };
    }
}
