/** Promises 17 to 20: meals, pages that are safe, who sits with whom, and evenings. */
final class SearchTest {
    private static final Check check = new Check();

    private static final String FACTS = "fact a;fact b leans a;fact c;fact d;";
    private static final String PEOPLE = "person ann room 9 die 0;person ben room 9 die 0;person cat room 2 die 0;";

    public static void main(String[] args) {
        meals();
        mealTies();
        safe();
        sitting();
        evenings();
        groupsApart();
        check.end();
    }

    private static String page(String name, String kind, int weight, int copies, String says) {
        return new StringBuilder().append("page ").append(name).append(' ').append(kind).append(" weigh ")
            .append(weight).append(" copies ").append(copies).append(" says ").append(says).append(';').toString();
    }

    private static String task(String name, String needs) {
        return "task " + name + " worth 1 needs " + needs + ";";
    }

    private static void meal(EatKnown x, int person, int task, int weight, int set) {
        check.same("meal " + person + ", " + task + ": weight", x.meal(person, task, 0), weight);
        check.same("meal " + person + ", " + task + ": set", x.meal(person, task, 1), set);
    }

    private static void meals() {
        EatKnown x = Check.of(FACTS + page("p", "true", 3, 1, "a") + page("q", "recipe", 5, 1, "b c")
            + page("r", "lie", 1, 9, "a b c d") + page("s", "true", 9, 0, "d") + page("t", "true", 7, 1, "a b")
            + PEOPLE + task("one", "b") + task("two", "a c") + task("three", "d") + task("four", "a"));
        meal(x, 0, 0, 7, 16);
        meal(x, 0, 1, 8, 3);
        meal(x, 0, 2, -1, -1);
        meal(x, 2, 3, 3, 1);
        x.eat(0, 0);
        meal(x, 0, 3, 0, 0);
        meal(x, 0, 0, 5, 2);
        meal(x, 1, 3, 7, 16);
        meal(x, 1, 1, 12, 18);
        x.eat(1, 1);
        meal(x, 1, 0, 7, 16);
        x.eat(0, 1);
        meal(x, 0, 0, 0, 0);
        check.same("what 2", x.meal(0, 0, 2), -1);
        check.same("what -1", x.meal(0, 0, -1), -1);
        check.same("task 4", x.meal(0, 4, 0), -1);
        check.same("task -1", x.meal(0, -1, 0), -1);
        check.same("person 3", x.meal(3, 0, 0), -1);
        check.same("person -1", x.meal(-1, 0, 0), -1);
        x.dies(0);
        meal(x, 0, 0, -1, -1);
    }

    private static void mealTies() {
        EatKnown x = Check.of(FACTS + page("p", "true", 1, 1, "a") + page("q", "true", 2, 1, "c")
            + page("r", "true", 3, 1, "a c") + page("s", "true", 3, 1, "a c d") + PEOPLE + task("t", "a c"));
        meal(x, 0, 0, 3, 4);
        EatKnown y = Check.of(FACTS + page("p", "true", 2, 1, "c") + page("q", "true", 1, 1, "a")
            + page("r", "true", 1, 1, "a") + page("s", "true", 2, 1, "c") + PEOPLE + task("t", "a c"));
        meal(y, 0, 0, 3, 3);
        y.eat(1, 1);
        meal(y, 0, 0, 3, 5);
        y.eat(1, 0);
        meal(y, 0, 0, 3, 12);
    }

    private static void safe() {
        String all = FACTS + page("p", "true", 1, 1, "a") + page("q", "true", 1, 2, "b") + page("r", "recipe", 1, 1, "a b")
            + page("s", "lie", 1, 1, "a b c d") + page("t", "true", 1, 1, "a b c") + page("u", "true", 1, 2, "c")
            + PEOPLE;
        EatKnown x = Check.of(all);
        check.same("d is lost, a b c by one page", x.safe(0), 16);
        x.eat(0, 4);
        check.same("ann knows them", x.safe(0), 0);
        check.same("but she may die", x.safe(1), 36);
        x.eat(1, 0);
        check.same("two know a", x.safe(1), 34);
        check.same("two may die", x.safe(2), 36);
        check.same("six", x.safe(6), 36);
        x.eat(1, 5);
        x.eat(0, 5);
        check.same("no copy of c", x.safe(2), -1);
        check.same("c is known by two", x.safe(1), 2);
        x.dies(1);
        check.same("now by one", x.safe(1), -1);
        check.same("no deaths", x.safe(0), 0);
        x.dies(0);
        check.same("c is lost", x.lost(), 12);
        check.same("it need not be said then", x.safe(0), 4);
        check.same("7", x.safe(7), -1);
        check.same("-1", x.safe(-1), -1);
        EatKnown y = Check.of(FACTS + page("p", "true", 1, 1, "a b") + page("q", "true", 1, 1, "c d")
            + page("r", "true", 1, 1, "a c") + page("s", "true", 1, 1, "b d"));
        check.same("of equal ones the least", y.safe(0), 3);
    }

    private static void sitting() {
        EatKnown x = Check.of(FACTS + page("p", "true", 1, 3, "a") + page("q", "true", 1, 3, "b")
            + page("r", "true", 1, 3, "c") + page("s", "lie", 1, 3, "d") + PEOPLE
            + task("one", "b") + task("two", "b c") + task("three", "d") + task("four", "a"));
        check.same("none", x.sit(0), -1);
        x.eat(1, 0);
        x.eat(2, 1);
        check.same("ben and cat", x.sit(0), 6);
        check.same("neither knows c", x.sit(1), -1);
        x.eat(0, 2);
        check.same("all three", x.sit(1), 7);
        check.same("ben alone", x.sit(3), 2);
        x.eat(0, 0);
        check.same("ann and cat: the least", x.sit(0), 5);
        check.same("the fewest for two", x.sit(1), 5);
        check.same("ann alone", x.sit(3), 1);
        x.eat(1, 3);
        check.same("a lie is not known", x.sit(2), -1);
        x.eat(1, 1);
        check.same("ben alone can do one", x.sit(0), 2);
        check.same("ann and ben", x.sit(1), 3);
        x.dies(1);
        check.same("the dead does not sit", x.sit(0), 5);
        x.dies(2);
        check.same("nobody knows b", x.sit(0), -1);
        check.same("task 4", x.sit(4), -1);
        check.same("task -1", x.sit(-1), -1);
    }

    private static void evenings() {
        EatKnown x = Check.of(FACTS + page("p", "true", 1, 3, "a") + page("q", "true", 1, 3, "c") + PEOPLE
            + task("one", "a") + task("two", "a c") + task("three", "c") + task("four", "d"));
        check.same("nothing can be done", x.evenings(), 0);
        x.eat(0, 0);
        check.same("one", x.evenings(), 1);
        x.eat(0, 1);
        check.same("ann alone: three", x.evenings(), 3);
        x.eat(1, 1);
        check.same("ben does three with her one or two", x.evenings(), 2);
        x.eat(1, 0);
        check.same("three tasks by two", x.evenings(), 2);
        x.eat(2, 0);
        check.same("cat does one", x.evenings(), 1);
        x.dies(0);
        check.same("by ben and cat", x.evenings(), 2);
        x.dies(1);
        check.same("by cat one", x.evenings(), 1);
        x.dies(2);
        check.same("by nobody", x.evenings(), 0);
    }

    /** Two tasks that the fewest would do with the same people can be done apart by others. */
    private static void groupsApart() {
        EatKnown x = Check.of("fact a;fact b;fact c;" + page("p", "recipe", 1, 1, "a") + page("q", "recipe", 1, 1, "b")
            + page("r", "recipe", 1, 1, "c") + "person aa room 9 die 0;person bb room 9 die 0;person cc room 9 die 0;"
            + "person dd room 9 die 0;person ee room 9 die 0;person ff room 9 die 0;"
            + task("one", "a b c") + task("two", "a b") + task("three", "c") + task("four", "b c") + task("five", "a"));
        x.eat(0, 0);
        x.eat(0, 1);
        x.eat(0, 2);
        check.same("one does all", x.evenings(), 5);
        x.eat(1, 0);
        check.same("bb does five", x.evenings(), 4);
        x.eat(2, 1);
        check.same("bb and cc do two together", x.evenings(), 3);
        x.eat(3, 2);
        check.same("dd does three, or four with cc", x.evenings(), 2);
        x.eat(4, 0);
        x.eat(5, 1);
        check.same("only aa and dd know c, and three need it", x.evenings(), 2);
        x.eat(4, 2);
        check.same("aa one, dd three, ee and ff four, bb and cc two: nobody for five", x.evenings(), 2);
        x.eat(5, 2);
        check.same("aa one, bb and cc two, dd three, ff four, ee five", x.evenings(), 1);
    }
}
