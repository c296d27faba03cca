/** Promises 21 to 24: what is told of a stranger and guessed from it, what to unlearn, and which pages are lies. */
final class StrangerTest {
    private static final Check check = new Check();

    private static final String TEXT = "fact a;fact b leans a;fact c;fact d;"
        + "page p true weigh 2 copies 0 says a;page q recipe weigh 3 copies 1 says b;"
        + "page r lie weigh 1 copies 1 says c d;page s true weigh 4 copies 9 says c;"
        + "person ann room 1 die 0;person ben room 9 die 0;"
        + "task one worth 1 needs a;task two worth 1 needs b;task three worth 1 needs c;task four worth 1 needs d;";

    public static void main(String[] args) {
        telling();
        guessing();
        tellingMost();
        unlearning();
        lies();
        check.end();
    }

    private static void telling() {
        EatKnown x = Check.of(TEXT);
        check.same("task 4", x.tell(4, true), false);
        check.same("task -1", x.tell(-1, false), false);
        check.same("nothing told", x.count(9), 0);
        for (int i = 0; i < 12; i++) {
            check.same("told", x.tell(i % 4, i % 2 == 0), true);
            check.same("so many", x.count(9), i + 1);
        }
        check.same("13", x.tell(0, true), false);
        check.same("12 stay", x.count(9), 12);
        check.same("told is not done by hand", x.count(11), 0);
    }

    private static void guess(String when, EatKnown x, int weight, int... due) {
        for (int what = 0; what < 4; what++) {
            check.same(when + ": guessed " + weight + ", " + what, x.guessed(weight, what),
                due.length == 1 ? due[0] : due[what]);
        }
    }

    private static void guessing() {
        EatKnown x = Check.of(TEXT);
        guess("nothing told", x, 200, 8, 0, 11, 0);
        guess("nothing told", x, 0, 1, 0, 0, -1);
        guess("nothing told: {} p", x, 2, 2, 0, 1, 0);
        guess("nothing told: {} p q s", x, 4, 4, 0, 11, 0);
        check.same("he can do one", x.tell(0, true), true);
        guess("one: p pq ps pqs", x, 9, 4, 1, 11, 1);
        guess("one: p pq ps", x, 8, 3, 1, 11, 1);
        guess("one: p pq", x, 5, 2, 1, 3, 1);
        guess("one: p", x, 2, 1, 1, 1, -1);
        guess("one: no set", x, 1, -1);
        check.same("he can't do two", x.tell(1, false), true);
        guess("not two: p ps", x, 9, 2, 1, 9, 2);
        guess("not two: p", x, 5, 1, 1, 1, -1);
        check.same("four is said by a lie alone", x.tell(3, false), true);
        guess("not four: p ps", x, 200, 2, 1, 9, 2);
        check.same("he can do three", x.tell(2, true), true);
        guess("three: ps", x, 6, 1, 9, 9, -1);
        guess("three: no set", x, 5, -1);
        check.same("and he can't", x.tell(2, false), true);
        guess("against itself", x, 200, -1);
        check.same("weight 201", x.guessed(201, 0), -1);
        check.same("weight -1", x.guessed(-1, 0), -1);
        EatKnown y = Check.of(TEXT);
        y.tell(0, false);
        guess("not one: {} q s qs", y, 200, 4, 0, 10, 2);
        check.same("what 4", y.guessed(200, 4), -1);
        check.same("what -1", y.guessed(200, -1), -1);
        check.same("weight -1", y.guessed(-1, 0), -1);
        check.same("weight 201", y.guessed(201, 0), -1);
        y.tell(3, true);
        guess("no honest page says d", y, 200, -1);
    }

    /** The task that parts the sets most evenly, and of equal ones the first. */
    private static void tellingMost() {
        String pages = "fact a;fact b;fact c;page p true weigh 1 copies 0 says a;page q true weigh 1 copies 0 says b;"
            + "page r true weigh 1 copies 0 says c;";
        EatKnown x = Check.of(pages + "task u worth 0 needs a b c;task v worth 0 needs b c;task w worth 0 needs c;"
            + "task z worth 0 needs b;");
        check.same("u 1 of 8, v 2, w 4, z 4", x.guessed(9, 3), 2);
        x.tell(2, true);
        check.same("u 1 of 4, v 2, w none, z 2", x.guessed(9, 3), 1);
        x.tell(1, false);
        check.same("c, a c: none parts them", x.guessed(9, 3), -1);
        check.same("c, a c", x.guessed(9, 0), 2);
    }

    private static void unlearning() {
        String text = "fact a;fact b;fact c;fact d;page p true weigh 1 copies 9 says a;page q lie weigh 1 copies 9 says b;"
            + "page r recipe weigh 1 copies 9 says b c;page s true weigh 1 copies 9 says d;"
            + "page t true weigh 1 copies 9 says c d;person ann room 9 die 0;person ben room 9 die 0;"
            + "clash a b;clash c d;";
        EatKnown x = Check.of(text);
        check.same("nothing eaten", x.unlearn(0), 0);
        x.eat(0, 0);
        check.same("p alone", x.unlearn(0), 0);
        x.eat(0, 1);
        check.same("p or q, a lie: the least", x.unlearn(0), 1);
        x.eat(0, 2);
        check.same("p rather than q and r", x.unlearn(0), 1);
        x.eat(0, 3);
        check.same("r is in both: r and p or q, or p and s", x.unlearn(0), 5);
        x.eat(1, 4);
        check.same("t clashes with itself", x.unlearn(1), 16);
        x.dies(1);
        check.same("the dead, too", x.unlearn(1), 16);
        check.same("nothing is unlearnt", x.person(1, 4), 16);
        check.same("no such", x.unlearn(2), -1);
        check.same("no such below", x.unlearn(-1), -1);
    }

    private static void lies(String text, int... due) {
        EatKnown x = Check.of("fact a;fact b;fact c;fact d;" + text);
        for (int what = 0; what < 4; what++) {
            check.same("lies " + what + " of " + text, x.lies(what), due[what]);
        }
        check.same("lies 4", x.lies(4), -1);
        check.same("lies -1", x.lies(-1), -1);
    }

    private static String page(String name, String says) {
        return "page " + name + " true weigh 1 copies 0 says " + says + ";";
    }

    private static void lies() {
        lies("", 0, 0, 1, 0);
        lies(page("p", "a b"), 0, 0, 1, 0);
        lies(page("p", "a b") + "clash a b;", 1, 1, 1, 1);
        lies(page("p", "a") + page("q", "b") + "clash a b;", 1, 1, 2, 0);
        lies(page("p", "a") + page("q", "b") + page("r", "b") + "clash a b;", 1, 1, 1, 1);
        lies(page("p", "b") + page("q", "b") + page("r", "a") + "clash a b;", 1, 4, 1, 4);
        lies(page("p", "a") + page("q", "b") + page("r", "b c") + page("s", "d") + "clash a b;clash d c;", 2, 5, 3, 0);
        lies(page("p", "a") + page("q", "b") + page("r", "c d") + "clash a b;clash c d;", 2, 5, 2, 4);
        lies("page p lie weigh 1 copies 9 says a;" + page("q", "b") + "page r recipe weigh 9 copies 1 says b;clash a b;",
            1, 1, 1, 1);
    }
}
