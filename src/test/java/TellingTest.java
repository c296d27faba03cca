/** Promises 5 to 8 and 30: what fact, page, person, task and count tell. */
final class TellingTest {
    private static final Check check = new Check();

    private static final String TEXT = "fact a;fact b leans a;fact c leans a b;fact d;"
        + "page p true weigh 2 copies 3 says a d;page q lie weigh 1 copies 0 says b c;"
        + "page r recipe weigh 3 copies 1 says c b;"
        + "person ann room 9 die 0;person ben room 4 die 3 heir ann;person cat room 0 die 10 heir ann;"
        + "task s worth 0 needs a;task t worth 99 needs c b;clash a c;clash d c;burn 7;";

    public static void main(String[] args) {
        facts();
        pages();
        people();
        tasks();
        counts();
        check.end();
    }

    private static void facts() {
        EatKnown x = Check.of(TEXT);
        int[][] due = {{0, 4, 1}, {1, 0, 6}, {3, 9, 6}, {0, 4, 1}};
        for (int f = 0; f < 4; f++) {
            for (int what = 0; what < 3; what++) {
                check.same("fact " + f + ", " + what, x.fact(f, what), due[f][what]);
            }
        }
        check.same("fact 4", x.fact(4, 0), -1);
        check.same("fact -1", x.fact(-1, 0), -1);
        check.same("fact what 3", x.fact(0, 3), -1);
        check.same("fact what -1", x.fact(0, -1), -1);
        check.same("fact far", x.fact(Integer.MAX_VALUE, 1), -1);
        check.same("fact low", x.fact(Integer.MIN_VALUE, 1), -1);
    }

    private static void pages() {
        EatKnown x = Check.of(TEXT);
        int[][] due = {{0, 2, 3, 9, 0}, {1, 1, 0, 6, 0}, {2, 3, 1, 6, 0}};
        for (int p = 0; p < 3; p++) {
            for (int what = 0; what < 5; what++) {
                check.same("page " + p + ", " + what, x.page(p, what), due[p][what]);
            }
        }
        x.eat(0, 0);
        x.eat(1, 0);
        x.eat(0, 2);
        check.same("copies now", x.page(0, 2), 1);
        check.same("of a recipe", x.page(2, 2), 1);
        check.same("eaten by both", x.page(0, 4), 3);
        check.same("eaten by ann", x.page(2, 4), 1);
        x.dies(0);
        check.same("by who is alive", x.page(0, 4), 2);
        check.same("by nobody alive", x.page(2, 4), 0);
        check.same("page 3", x.page(3, 0), -1);
        check.same("page -1", x.page(-1, 0), -1);
        check.same("page what 5", x.page(0, 5), -1);
        check.same("page what -1", x.page(0, -1), -1);
    }

    private static void person(EatKnown x, int i, int... due) {
        for (int what = 0; what < due.length; what++) {
            check.same("person " + i + ", " + what, x.person(i, what), due[what]);
        }
    }

    private static void people() {
        EatKnown x = Check.of(TEXT.replace("copies 0", "copies 1"));
        person(x, 0, 1, 9, 9, -1, 0, 0, 0, 0, 0);
        person(x, 1, 1, 4, 4, 0, 0, 0, 0, 0, 0);
        person(x, 2, 1, 0, 0, 0, 0, 0, 0, 0, 0);
        x.eat(1, 2);
        person(x, 1, 1, 4, 1, 0, 4, 6, 0, 6, 0);
        x.eat(1, 1);
        person(x, 1, 1, 4, 0, 0, 6, 6, 0, 6, 0);
        x.days(1);
        x.eat(1, 0);
        person(x, 1, 1, 4, 2, 0, 7, 15, 15, 15, 3);
        x.dies(1);
        person(x, 1, 0, 4, 2, 0, 7, 15, 15, 15, 3);
        x.days(1);
        person(x, 1, 0, 4, 4, 0, 7, 15, 15, 15, 3);

        EatKnown y = Check.of(TEXT.replace("copies 0", "copies 1"));
        y.eat(0, 1);
        y.eat(0, 0);
        person(y, 0, 1, 9, 6, -1, 3, 9, 9, 15, 1);
        check.nobody(y, 3, 0);
        check.nobody(y, -1, 0);
        check.nobody(y, 0, 9);
        check.nobody(y, 0, -1);
        check.nobody(y, Integer.MAX_VALUE, Integer.MIN_VALUE);
    }

    private static void tasks() {
        EatKnown x = Check.of(TEXT);
        int[][] due = {{0, 1, 0}, {99, 6, 0}};
        for (int t = 0; t < 2; t++) {
            for (int what = 0; what < 3; what++) {
                check.same("task " + t + ", " + what, x.task(t, what), due[t][what]);
            }
        }
        x.eat(0, 0);
        x.eat(1, 0);
        x.eat(0, 2);
        check.same("both", x.task(0, 2), 3);
        check.same("ann", x.task(1, 2), 1);
        x.dies(0);
        check.same("alive", x.task(0, 2), 2);
        check.same("nobody", x.task(1, 2), 0);
        check.same("task 2", x.task(2, 0), -1);
        check.same("task -1", x.task(-1, 0), -1);
        check.same("task what 3", x.task(0, 3), -1);
        check.same("task what -1", x.task(0, -1), -1);
    }

    private static void counts(EatKnown x, String when, int... due) {
        for (int what = 0; what < due.length; what++) {
            check.same(when + ": count " + what, x.count(what), due[what]);
        }
    }

    private static void counts() {
        EatKnown x = Check.of(TEXT);
        counts(x, "at first", 4, 3, 3, 2, 3, 4, 0, 0, 0, 0, 7, 0, 0);
        x.eat(0, 0);
        x.copy(0);
        x.copy(2);
        x.dies(2);
        x.days(10);
        x.tell(0, true);
        x.tell(0, false);
        Check.history(x, "night;night;night;");
        Check.say(x, "twelve signs");
        counts(x, "then", 4, 3, 3, 2, 2, 5, 10, 5, 3, 2, 7, 5, 12);
        check.same("count 13", x.count(13), -1);
        check.same("count -1", x.count(-1), -1);
    }
}
