/** The edges that promises 17 to 28 name, with their Terms; each method is for one sentence of the document. */
final class QuestionsEdgesTest {
    private static final Check check = new Check();

    private static final int[] FAR = {Integer.MIN_VALUE, Integer.MIN_VALUE + 1, -201, -65, -33, -32, -2, 10000, 1 << 16,
        Integer.MAX_VALUE - 1, Integer.MAX_VALUE};

    private static final String TEXT = "fact a;fact b leans a;fact c;page p true weigh 2 copies 3 says a;"
        + "page q recipe weigh 3 copies 1 says b;page r lie weigh 1 copies 2 says c;page s true weigh 4 copies 0 says c;"
        + "person ann room 5 die 0;person ben room 6 die 0 heir ann;person cat room 9 die 0 heir ben;"
        + "task t worth 7 needs a;task u worth 9 needs b;clash a c;";

    public static void main(String[] args) {
        mealNoneIsOthers();
        mealOfPagesWithACopyNotEaten();
        mealWhateverHisRoom();
        mealTheLeastWeightThenTheFewestThenTheLeastSet();
        safeFrom0To6();
        safeOfFactsThatNoMoreKnow();
        safeOfFactsNotLost();
        safeTheFewestOfEqualOnesTheLeast();
        sitNoneIsOthers();
        sitTheFewestOfEqualOnesTheLeast();
        evenings0IfNothingCanBeDone();
        eveningsFrom1To5();
        groupsOfOneEveningApart();
        tellOthersAnd12AtMost();
        guessedWeight0To200();
        guessedSetsOfPagesNoLies();
        guessedWhatTellsMost();
        unlearnNoneIsNoSuchPerson();
        unlearnTheFewestOfEqualOnesTheLeast();
        liesNoneIsOthers();
        liesTheFewestHowManySetsInAll();
        restsOfTwoOrThreeAlive();
        restsHowManyAndTheIth();
        restsByNumbersEachEats();
        restsDigitsToTheBaseOf13();
        hands0To4();
        handsBeyond();
        handsNineCopiesAtMost();
        handsNoPageCanBe();
        handsBurn0And10();
        handsCutCopyByCopyAndOneByOne();
        handsByAThousandCut();
        handsOfEqualOnesTheFirstRow();
        priceNoneIsOthersNobodyAlive();
        priceTheMostByTheFirst();
        yearsNoneIsOthers();
        yearsDraws();
        yearsAllIsAsAhead();
        thenTheDayPasses();
        yearsWithoutPagesNoDraw();
        check.end();
    }

    private static String page(String name, String kind, int weight, int copies, String says) {
        return String.format("page %s %s weigh %d copies %d says %s;", name, kind, weight, copies, says);
    }

    /** Facts a to l, each said by a page of its own, pa to pl. */
    private static String twelve(int weight, int copies) {
        StringBuilder s = new StringBuilder();
        for (char c = 'a'; c <= 'l'; c++) {
            s.append("fact ").append(c).append(';');
        }
        for (char c = 'a'; c <= 'l'; c++) {
            s.append(page("p" + c, "true", weight, copies, "" + c));
        }
        return s.toString();
    }

    private static String people(int many, int room) {
        StringBuilder s = new StringBuilder();
        for (int i = 0; i < many; i++) {
            s.append("person h").append((char) ('a' + i)).append(" room ").append(room).append(" die 0;");
        }
        return s.toString();
    }

    private static void meal(EatKnown x, int person, int task, int weight, int set) {
        check.stays("meal " + person + ", " + task + ": weight", x, () -> x.meal(person, task, 0), weight);
        check.stays("meal " + person + ", " + task + ": set", x, () -> x.meal(person, task, 1), set);
    }

    private static void mealNoneIsOthers() {
        EatKnown x = Check.of(TEXT);
        meal(x, 2, 1, 5, 3);
        meal(x, 3, 1, -1, -1);
        meal(x, -1, 1, -1, -1);
        meal(x, 0, 0, 2, 1);
        meal(x, 0, 2, -1, -1);
        meal(x, 0, -1, -1, -1);
        check.same("what 2", x.meal(0, 0, 2), -1);
        check.same("what -1", x.meal(0, 0, -1), -1);
        for (int far : FAR) {
            check.same("person " + far, x.meal(far, 0, 0), -1);
            check.same("task " + far, x.meal(0, far, 0), -1);
            check.same("what " + far, x.meal(0, 0, far), -1);
        }
        for (int i = 0; i < 64; i++) {
            check.same("person 3 and on", x.meal(3 + i, 0, 0), -1);
            check.same("task 2 and on", x.meal(0, 2 + i, 0), -1);
        }
        x.dies(0);
        meal(x, 0, 0, -1, -1);
        meal(x, 1, 0, 2, 1);
        x.eat(1, 0);
        meal(x, 1, 0, 0, 0);
        x.dies(1);
        meal(x, 1, 0, -1, -1);
        EatKnown none = new EatKnown();
        meal(none, 0, 0, -1, -1);
    }

    private static void mealOfPagesWithACopyNotEaten() {
        String text = "fact a;fact b;" + page("p", "true", 2, 1, "a") + page("q", "true", 3, 1, "a") + page("r", "lie", 1, 9, "a b")
            + page("s", "true", 1, 0, "a b") + people(2, 9) + "task t worth 1 needs a;task u worth 1 needs b;";
        EatKnown x = Check.of(text);
        meal(x, 0, 0, 2, 1);
        meal(x, 0, 1, -1, -1);
        x.eat(0, 0);
        meal(x, 0, 0, 0, 0);
        meal(x, 1, 0, 3, 2);
        x.eat(0, 1);
        meal(x, 1, 0, -1, -1);
        EatKnown y = Check.of(text.replace("copies 0", "copies 1"));
        meal(y, 0, 0, 1, 8);
        meal(y, 0, 1, 1, 8);
        y.eat(1, 3);
        meal(y, 0, 1, -1, -1);
        meal(y, 1, 1, 0, 0);
    }

    private static void mealWhateverHisRoom() {
        EatKnown x = Check.of(twelve(9, 1) + people(1, 0) + "task t worth 1 needs a b c d e f g h i j k l;"
            + "task u worth 1 needs l;");
        meal(x, 0, 0, 108, 4095);
        meal(x, 0, 1, 9, 2048);
        EatKnown y = Check.of(twelve(1, 1) + people(1, 1) + "task t worth 1 needs a b c d e f g h i j k l;");
        meal(y, 0, 0, 12, 4095);
        y.eat(0, 11);
        check.same("no room is left", y.person(0, 2), 0);
        meal(y, 0, 0, 11, 2047);
    }

    private static void mealTheLeastWeightThenTheFewestThenTheLeastSet() {
        String facts = "fact a;fact b;fact c;";
        String end = people(1, 9) + "task t worth 1 needs a b c;";
        EatKnown weight = Check.of(facts + page("p", "true", 4, 1, "a b c") + page("q", "true", 1, 1, "a")
            + page("r", "true", 1, 1, "b") + page("s", "true", 1, 1, "c") + end);
        meal(weight, 0, 0, 3, 14);
        EatKnown fewest = Check.of(facts + page("p", "true", 1, 1, "a") + page("q", "true", 1, 1, "b")
            + page("r", "true", 1, 1, "c") + page("s", "true", 3, 1, "a b c") + end);
        meal(fewest, 0, 0, 3, 8);
        EatKnown two = Check.of(facts + page("p", "true", 1, 1, "a") + page("q", "true", 1, 1, "b")
            + page("r", "true", 1, 1, "c") + page("s", "true", 2, 1, "a b") + end);
        meal(two, 0, 0, 3, 12);
        EatKnown least = Check.of(facts + page("p", "true", 2, 1, "a b") + page("q", "true", 1, 1, "c")
            + page("r", "true", 1, 1, "c") + page("s", "true", 2, 1, "a b") + end);
        meal(least, 0, 0, 3, 3);
        EatKnown bits = Check.of(facts + page("p", "true", 1, 1, "a") + page("q", "true", 2, 1, "a b")
            + page("r", "true", 1, 1, "c") + page("s", "true", 2, 1, "b c") + end);
        meal(bits, 0, 0, 3, 6);
    }

    private static void safe(EatKnown x, int deaths, int due) {
        check.stays("safe from " + deaths, x, () -> x.safe(deaths), due);
    }

    private static void safeFrom0To6() {
        EatKnown x = Check.of(TEXT);
        safe(x, 0, 3);
        safe(x, 6, 3);
        safe(x, 7, -1);
        safe(x, -1, -1);
        for (int far : FAR) {
            safe(x, far, -1);
        }
        EatKnown none = new EatKnown();
        safe(none, 0, 0);
        safe(none, 6, 0);
        safe(none, 7, -1);
    }

    private static void safeOfFactsThatNoMoreKnow() {
        EatKnown x = Check.of("fact a;" + page("p", "true", 1, 9, "a") + people(6, 9));
        for (int knowing = 0; knowing <= 6; knowing++) {
            for (int deaths = 0; deaths <= 6; deaths++) {
                safe(x, deaths, knowing <= deaths ? 1 : 0);
            }
            x.eat(knowing, 0);
        }
        x.dies(0);
        safe(x, 5, 1);
        safe(x, 4, 0);
        check.same("who has eaten a lie", x.count(4), 5);
        EatKnown y = Check.of("fact a;" + page("p", "lie", 1, 9, "a") + page("q", "true", 1, 1, "a") + people(1, 9));
        y.eat(0, 0);
        safe(y, 0, 2);
        y.eat(0, 1);
        safe(y, 0, 0);
        safe(y, 1, -1);
    }

    private static void safeOfFactsNotLost() {
        EatKnown x = Check.of("fact a;fact b;" + page("p", "true", 1, 1, "a") + page("q", "true", 1, 1, "a b") + people(1, 9));
        safe(x, 0, 2);
        x.eat(0, 1);
        safe(x, 0, 0);
        safe(x, 1, -1);
        x.dies(0);
        check.same("b is lost", x.lost(), 2);
        safe(x, 0, 1);
        safe(x, 1, 1);
        EatKnown y = Check.of("fact a;" + page("p", "lie", 1, 9, "a"));
        safe(y, 6, 0);
        EatKnown all = Check.of("fact a;fact b;");
        safe(all, 6, 0);
    }

    private static void safeTheFewestOfEqualOnesTheLeast() {
        safe(Check.of(twelve(1, 1)), 0, 4095);
        safe(Check.of(twelve(1, 1) + people(6, 1)), 6, 4095);
        String facts = "fact a;fact b;fact c;fact d;";
        safe(Check.of(facts + page("p", "true", 1, 1, "a") + page("q", "true", 1, 1, "b c d") + page("r", "true", 1, 1, "a b")
            + page("s", "true", 1, 1, "c d")), 0, 3);
        safe(Check.of(facts + page("p", "true", 1, 1, "a b") + page("q", "true", 1, 1, "c") + page("r", "true", 1, 1, "d")
            + page("s", "true", 1, 1, "c d")), 0, 9);
        safe(Check.of(facts + page("p", "true", 1, 1, "a b") + page("q", "true", 1, 1, "c d") + page("r", "recipe", 9, 1, "a b c d")),
            0, 4);
        safe(Check.of(facts + page("p", "lie", 1, 9, "a b c d") + page("q", "true", 1, 0, "a b c d") + page("r", "true", 1, 1, "a b")
            + page("s", "true", 1, 1, "b c d")), 0, 12);
    }

    private static void sit(EatKnown x, int task, int due) {
        check.stays("sit for " + task, x, () -> x.sit(task), due);
    }

    private static void sitNoneIsOthers() {
        EatKnown x = Check.of(TEXT);
        sit(x, 0, -1);
        sit(x, 2, -1);
        sit(x, -1, -1);
        x.eat(2, 0);
        sit(x, 0, 4);
        sit(x, 1, -1);
        for (int far : FAR) {
            sit(x, far, -1);
        }
        for (int i = 2; i < 70; i++) {
            sit(x, i, -1);
        }
        x.dies(1);
        x.dies(2);
        sit(x, 0, -1);
        sit(new EatKnown(), 0, -1);
    }

    private static void sitTheFewestOfEqualOnesTheLeast() {
        EatKnown x = Check.of(twelve(1, 9) + people(6, 12) + "task t worth 1 needs a b c d e f;");
        for (int i = 0; i < 6; i++) {
            sit(x, 0, -1);
            x.eat(i, i);
        }
        sit(x, 0, 63);
        x.eat(5, 0);
        sit(x, 0, 62);
        x.eat(5, 1);
        x.eat(5, 2);
        sit(x, 0, 56);
        x.eat(0, 3);
        x.eat(0, 4);
        sit(x, 0, 33);
        x.eat(1, 3);
        x.eat(1, 4);
        sit(x, 0, 33);
        x.eat(4, 5);
        x.eat(4, 2);
        x.eat(4, 3);
        sit(x, 0, 33);
        x.eat(1, 0);
        sit(x, 0, 18);
        x.eat(0, 1);
        sit(x, 0, 17);
        x.eat(4, 0);
        sit(x, 0, 17);
        x.eat(4, 1);
        sit(x, 0, 16);
        x.dies(4);
        sit(x, 0, 33);
        EatKnown leaning = Check.of("fact a;fact b leans a;" + page("p", "true", 1, 1, "a") + page("q", "true", 1, 1, "b")
            + page("r", "lie", 1, 1, "a") + people(3, 9) + "task t worth 1 needs b;");
        leaning.eat(0, 1);
        leaning.eat(1, 2);
        sit(leaning, 0, -1);
        leaning.eat(2, 0);
        sit(leaning, 0, 5);
    }

    private static void evenings(String when, EatKnown x, int due) {
        check.stays("evenings " + when, x, x::evenings, due);
    }

    private static void evenings0IfNothingCanBeDone() {
        evenings("of nothing", new EatKnown(), 0);
        evenings("without tasks", Check.of("fact a;" + page("p", "true", 1, 1, "a") + people(1, 9)), 0);
        EatKnown x = Check.of(TEXT);
        evenings("when nobody can", x, 0);
        x.eat(0, 0);
        evenings("when one can", x, 1);
        x.dies(0);
        evenings("when he is dead", x, 0);
        evenings("without people", Check.of("fact a;task t worth 1 needs a;"), 0);
    }

    private static void eveningsFrom1To5() {
        String tasks = "task t worth 1 needs a;task u worth 1 needs a;task v worth 1 needs a;task w worth 1 needs a;"
            + "task z worth 0 needs a;";
        EatKnown x = Check.of("fact a;fact b;" + page("p", "recipe", 1, 1, "a") + page("q", "recipe", 1, 1, "b") + people(6, 9) + tasks);
        int[] due = {0, 5, 3, 2, 2, 1, 1};
        for (int i = 0; i < 6; i++) {
            evenings("with " + i, x, due[i]);
            x.eat(i, 0);
        }
        evenings("with six", x, 1);
        EatKnown y = Check.of("fact a;fact b;" + page("p", "recipe", 1, 1, "a") + page("q", "recipe", 1, 1, "b") + people(6, 9)
            + tasks.replace("needs a", "needs a b"));
        int[] pairs = {0, 0, 5, 5, 3, 3, 2};
        for (int i = 0; i < 6; i++) {
            evenings("with halves " + i, y, pairs[i]);
            y.eat(i, i % 2);
        }
        evenings("with three pairs", y, 2);
        y.eat(0, 1);
        evenings("with two alone and two pairs", y, 2);
        y.dies(0);
        evenings("with two pairs again", y, 3);
    }

    private static void groupsOfOneEveningApart() {
        String text = "fact a;fact b;fact c;" + page("p", "recipe", 1, 1, "a") + page("q", "recipe", 1, 1, "b")
            + page("r", "recipe", 1, 1, "c") + people(6, 9) + "task t worth 1 needs a b c;task u worth 1 needs a b;"
            + "task v worth 1 needs c;task w worth 1 needs b c;task z worth 1 needs a;";
        EatKnown x = Check.of(text);
        int[][] meals = {{0, 0}, {0, 1}, {0, 2}, {1, 0}, {2, 1}, {3, 2}, {4, 0}, {5, 1}, {4, 2}, {5, 2}};
        int[] due = {1, 2, 5, 4, 3, 2, 2, 2, 2, 1};
        for (int i = 0; i < meals.length; i++) {
            check.same("eat", x.eat(meals[i][0], meals[i][1]), true);
            check.same("sit for z", x.sit(4), 1);
            check.same("sit for t", x.sit(0), i < 2 ? -1 : 1);
            check.same("evenings " + i, x.evenings(), due[i]);
        }
        EatKnown two = Check.of(text);
        two.eat(0, 0);
        two.eat(1, 1);
        evenings("of u by both and z by one of them", two, 2);
        two.eat(2, 0);
        evenings("of u by two and z by the third", two, 1);
        two.dies(1);
        evenings("of z alone", two, 1);
    }

    private static void tellOthersAnd12AtMost() {
        EatKnown x = Check.of(TEXT);
        check.stays("task 2", x, () -> x.tell(2, true), false);
        check.stays("task -1", x, () -> x.tell(-1, true), false);
        for (int far : FAR) {
            check.stays("task " + far, x, () -> x.tell(far, false), false);
        }
        for (int i = 1; i <= 12; i++) {
            check.same("tell " + i, x.tell(1, false), true);
            check.same("told " + i, x.count(9), i);
        }
        check.stays("a 13th", x, () -> x.tell(0, true), false);
        check.stays("a 13th, not", x, () -> x.tell(1, false), false);
        check.same("12", x.count(9), 12);
        EatKnown none = new EatKnown();
        check.stays("no tasks", none, () -> none.tell(0, true), false);
        EatKnown five = Check.of("fact a;task t worth 1 needs a;task u worth 1 needs a;task v worth 1 needs a;"
            + "task w worth 1 needs a;task z worth 1 needs a;");
        check.same("the fifth", five.tell(4, false), true);
        check.stays("a sixth", five, () -> five.tell(5, false), false);
    }

    private static void guess(EatKnown x, int weight, int... due) {
        for (int i = 0; i < 4; i++) {
            int what = i;
            check.stays("guessed " + weight + ", " + what, x, () -> x.guessed(weight, what), due.length == 1 ? due[0] : due[what]);
        }
    }

    private static void guessedWeight0To200() {
        EatKnown x = Check.of(TEXT);
        guess(x, 0, 1, 0, 0, -1);
        guess(x, 200, 8, 0, 11, 0);
        guess(x, -1, -1);
        guess(x, 201, -1);
        for (int far : FAR) {
            guess(x, far, -1);
            check.same("what " + far, x.guessed(200, far), -1);
        }
        check.same("what 4", x.guessed(200, 4), -1);
        check.same("what -1", x.guessed(200, -1), -1);
        EatKnown none = new EatKnown();
        guess(none, 0, 1, 0, 0, -1);
        guess(none, 200, 1, 0, 0, -1);
        guess(none, 201, -1);
    }

    private static void guessedSetsOfPagesNoLies() {
        EatKnown x = Check.of(twelve(9, 0));
        guess(x, 108, 4096, 0, 4095, -1);
        guess(x, 107, 4095, 0, 4095, -1);
        guess(x, 99, 4095, 0, 4095, -1);
        guess(x, 98, 4095 - 12, 0, 4095, -1);
        guess(x, 9, 13, 0, 4095, -1);
        guess(x, 8, 1, 0, 0, -1);
        EatKnown y = Check.of(twelve(9, 9) + "task t worth 1 needs a b c d e f g h i j k l;");
        guess(y, 108, 4096, 0, 4095, 0);
        y.tell(0, true);
        guess(y, 108, 1, 4095, 4095, -1);
        guess(y, 107, -1);
        EatKnown z = Check.of("fact a;" + page("p", "lie", 1, 9, "a") + "task t worth 1 needs a;");
        guess(z, 200, 1, 0, 0, -1);
        z.tell(0, false);
        guess(z, 200, 1, 0, 0, -1);
        z.tell(0, true);
        guess(z, 200, -1);
        EatKnown told = Check.of(TEXT);
        told.tell(0, true);
        told.tell(0, true);
        guess(told, 2, 1, 1, 1, -1);
        guess(told, 1, -1);
        told.tell(1, true);
        guess(told, 5, 1, 3, 3, -1);
        guess(told, 4, -1);
        told.tell(1, false);
        guess(told, 200, -1);
    }

    private static void guessedWhatTellsMost() {
        String pages = "fact a;fact b;" + page("p", "true", 1, 1, "a") + page("q", "true", 1, 1, "b");
        check.same("1 of 4, 2 of 4: the second", Check.of(pages + "task t worth 1 needs a b;task u worth 1 needs b;").guessed(9, 3), 1);
        check.same("2 of 4, 2 of 4: the first", Check.of(pages + "task t worth 1 needs a;task u worth 1 needs b;").guessed(9, 3), 0);
        check.same("1 of 3, 1 of 3: the first", Check.of(pages + "task t worth 1 needs b;task u worth 1 needs a;").guessed(1, 3), 0);
        check.same("without tasks", Check.of(pages).guessed(9, 3), -1);
        check.same("none by which he can", Check.of(pages + "fact c;task t worth 1 needs c;").guessed(9, 3), -1);
        EatKnown x = Check.of(pages + "task t worth 1 needs a;");
        x.tell(0, true);
        check.same("all by which he can", x.guessed(9, 3), -1);
        check.same("two sets", x.guessed(9, 0), 2);
        EatKnown y = Check.of(pages + "fact c;fact d;" + page("r", "true", 1, 1, "a") + page("s", "true", 1, 1, "a")
            + "task t worth 1 needs a;task u worth 1 needs b;task v worth 1 needs a b;");
        check.same("14 of 16, 8 of 16, 7 of 16", y.guessed(9, 3), 1);
        EatKnown z = Check.of(pages + page("r", "true", 1, 1, "a") + "task t worth 1 needs a;task u worth 1 needs a b;");
        check.same("6 of 8, 3 of 8: 2 against 3", z.guessed(9, 3), 1);
        EatKnown last = Check.of(pages + "fact c;task ta worth 1 needs c;task tb worth 1 needs c;task tc worth 1 needs c;"
            + "task td worth 1 needs c;task te worth 1 needs b;");
        check.same("the fifth", last.guessed(9, 3), 4);
    }

    private static void unlearnNoneIsNoSuchPerson() {
        EatKnown x = Check.of(TEXT);
        check.stays("the last", x, () -> x.unlearn(2), 0);
        check.stays("person 3", x, () -> x.unlearn(3), -1);
        check.stays("person -1", x, () -> x.unlearn(-1), -1);
        for (int far : FAR) {
            check.stays("person " + far, x, () -> x.unlearn(far), -1);
        }
        x.eat(2, 0);
        x.eat(2, 2);
        check.stays("a lie is believed", x, () -> x.unlearn(2), 1);
        x.dies(2);
        check.stays("of the dead, too", x, () -> x.unlearn(2), 1);
        check.stays("of his heir", x, () -> x.unlearn(1), 1);
        check.same("of nobody", new EatKnown().unlearn(0), -1);
    }

    private static String allClash() {
        StringBuilder s = new StringBuilder();
        for (char i = 'a'; i <= 'l'; i++) {
            for (char j = 'a'; j < i; j++) {
                s.append("clash ").append(j).append(' ').append(i).append(';');
            }
        }
        return s.toString();
    }

    private static void unlearnTheFewestOfEqualOnesTheLeast() {
        String facts = "fact a;fact b;fact c;";
        EatKnown x = Check.of(facts + page("p", "true", 1, 1, "a") + page("q", "recipe", 1, 1, "b") + page("r", "lie", 1, 1, "b c")
            + page("s", "true", 1, 1, "a b") + people(1, 9) + "clash a b;");
        check.same("nothing eaten", x.unlearn(0), 0);
        x.eat(0, 1);
        x.eat(0, 2);
        check.same("no two that clash", x.unlearn(0), 0);
        x.eat(0, 0);
        check.same("one of them rather than two", x.unlearn(0), 1);
        x.eat(0, 3);
        check.same("s clashes by itself; then p or q and r", x.unlearn(0), 9);
        EatKnown y = Check.of(facts + page("p", "true", 1, 1, "b") + page("q", "true", 1, 1, "a") + people(1, 9) + "clash b a;");
        y.eat(0, 0);
        y.eat(0, 1);
        check.same("the least", y.unlearn(0), 1);
        EatKnown own = Check.of(facts + page("p", "true", 1, 1, "a b") + people(1, 9) + "clash a b;");
        own.eat(0, 0);
        check.same("all of what is eaten", own.unlearn(0), 1);
    }

    private static void lies(EatKnown x, int... due) {
        for (int i = 0; i < 4; i++) {
            int what = i;
            check.stays("lies " + what, x, () -> x.lies(what), due[what]);
        }
    }

    private static void liesNoneIsOthers() {
        EatKnown x = Check.of(TEXT);
        lies(x, 1, 1, 1, 1);
        check.stays("what 4", x, () -> x.lies(4), -1);
        check.stays("what -1", x, () -> x.lies(-1), -1);
        for (int far : FAR) {
            check.stays("what " + far, x, () -> x.lies(far), -1);
        }
        lies(new EatKnown(), 0, 0, 1, 0);
        check.same("of nothing, what 4", new EatKnown().lies(4), -1);
        lies(Check.of("fact a;fact b;clash a b;"), 0, 0, 1, 0);
    }

    private static void liesTheFewestHowManySetsInAll() {
        StringBuilder facts = new StringBuilder();
        StringBuilder pages = new StringBuilder();
        for (char c = 'a'; c <= 'l'; c++) {
            facts.append("fact ").append(c).append(';');
        }
        EatKnown x = Check.of("fact a;fact b;" + page("p", "true", 1, 0, "a") + page("q", "lie", 9, 9, "b")
            + page("r", "recipe", 9, 9, "b") + page("s", "true", 1, 1, "a") + "clash b a;");
        lies(x, 2, 6, 2, 0);
        for (char c = 'a'; c <= 'l'; c++) {
            pages.append(page("p" + c, "true", 1, 0, "a b"));
        }
        lies(Check.of("fact a;fact b;clash a b;" + pages), 12, 4095, 1, 4095);
        lies(Check.of("fact a;fact b;" + pages), 0, 0, 1, 0);
        String some = facts.toString() + "page pa true weigh 1 copies 0 says a;page pb true weigh 1 copies 0 says b;"
            + "page pc true weigh 1 copies 0 says c;page pd true weigh 1 copies 0 says d;";
        lies(Check.of(some + "clash a b;clash a c;clash a d;clash b c;clash b d;clash c d;"), 3, 7, 4, 0);
        EatKnown all = Check.of("fact a;fact b;fact c;fact d;fact e;fact f;" + "page pa true weigh 1 copies 0 says a b;"
            + "page pb true weigh 1 copies 0 says c;page pc true weigh 1 copies 0 says d;clash a b;clash c d;");
        lies(all, 2, 3, 2, 1);
        check.same("66 clashes of 12", Check.of(facts + allClash()).lies(0), 0);
    }

    private static void rests(EatKnown x, int people, int what, int due) {
        check.stays("rests of " + people + ", " + what, x, () -> x.rests(people, what), due);
    }

    private static void restsOfTwoOrThreeAlive() {
        EatKnown x = Check.of(people(6, 1));
        for (int people = -2; people < 130; people++) {
            int many = Integer.bitCount(people);
            boolean some = people >= 0 && people < 64 && (many == 2 || many == 3);
            rests(x, people, -1, some ? 1 : -1);
            rests(x, people, 0, some ? 0 : -1);
        }
        x.dies(5);
        x.dies(0);
        for (int people = 0; people < 64; people++) {
            int many = Integer.bitCount(people);
            boolean some = (people & 33) == 0 && (many == 2 || many == 3);
            rests(x, people, -1, some ? 1 : -1);
        }
        for (int far : FAR) {
            rests(x, far, -1, -1);
            rests(x, far, 0, -1);
        }
        rests(new EatKnown(), 3, -1, -1);
        rests(new EatKnown(), 0, -1, -1);
    }

    private static void restsHowManyAndTheIth() {
        EatKnown x = Check.of(twelve(1, 0) + people(3, 9) + "task t worth 9 needs a;");
        rests(x, 7, -1, 13 * 13 * 13);
        rests(x, 7, -2, -1);
        for (int i = 0; i < 13 * 13 * 13; i++) {
            check.same("the i-th of all", x.rests(7, i), i);
        }
        rests(x, 7, 13 * 13 * 13, -1);
        rests(x, 7, Integer.MAX_VALUE, -1);
        rests(x, 7, Integer.MIN_VALUE, -1);
        rests(x, 6, -1, 169);
        rests(x, 6, 168, 168);
        rests(x, 6, 169, -1);
    }

    private static void restsByNumbersEachEats() {
        String text = "fact a;" + page("p", "true", 2, 1, "a") + page("q", "true", 3, 1, "a") + people(3, 9) + "task t worth 5 needs a;";
        EatKnown x = Check.of(text);
        // one copy of p: the first has it, the second q, the third what he likes
        rests(x, 3, -1, 1);
        rests(x, 3, 0, 13 + 2);
        rests(x, 7, -1, 3);
        rests(x, 7, 0, 169 + 26);
        rests(x, 7, 2, 169 + 26 + 2);
        EatKnown recipe = Check.of(text.replace("page p true", "page p recipe"));
        rests(recipe, 7, -1, 1);
        rests(recipe, 7, 0, 169 + 13 + 1);
        EatKnown two = Check.of(text.replace("weigh 2 copies 1", "weigh 2 copies 2"));
        rests(two, 7, -1, 1);
        rests(two, 7, 0, 169 + 13 + 2);
        // what it weighs is just what it is worth: as good as none
        EatKnown even = Check.of(text.replace("worth 5", "worth 2"));
        rests(even, 3, -1, 4);
        rests(even, 3, 0, 0);
        rests(even, 3, 1, 1);
        rests(even, 3, 2, 13);
        rests(even, 3, 3, 13 + 1);
        rests(even, 3, 4, -1);
        // each of the first one's choices leaves all copies but his own
        EatKnown either = Check.of("fact a;" + page("p", "true", 2, 1, "a") + page("q", "true", 2, 1, "a") + people(3, 9)
            + "task t worth 5 needs a;");
        rests(either, 3, -1, 2);
        rests(either, 3, 0, 13 + 2);
        rests(either, 3, 1, 26 + 1);
        rests(either, 7, -1, 6);
        rests(either, 7, 3, 2 * 169 + 13);
        EatKnown last = Check.of(twelve(1, 1) + people(2, 9) + "task t worth 5 needs l;");
        rests(last, 3, -1, 2);
        rests(last, 3, 0, 12 * 13);
        rests(last, 3, 1, 12 * 13 + 12);
        EatKnown dear = Check.of(text.replace("worth 5", "worth 1"));
        rests(dear, 3, -1, 1);
        rests(dear, 3, 0, 0);
    }

    private static void restsDigitsToTheBaseOf13() {
        String facts = "fact a;" + page("pa", "true", 9, 1, "a");
        StringBuilder s = new StringBuilder(facts);
        for (char c = 'b'; c <= 'l'; c++) {
            s.append(page("p" + c, "recipe", c == 'l' ? 1 : 9, 1, "a"));
        }
        EatKnown x = Check.of(s + people(4, 40) + "task t worth 99 needs a;");
        rests(x, 10, -1, 1);
        rests(x, 10, 0, 12 * 13 + 12);
        rests(x, 10, 1, -1);
        rests(x, 14, 0, 12 * 169 + 12 * 13 + 12);
        x.eat(1, 11);
        // the least person's digit is the highest: he can do it already, and what he can't eat again costs nothing
        rests(x, 10, -1, 2);
        rests(x, 10, 0, 12);
        rests(x, 10, 1, 12 * 13 + 12);
        rests(x, 10, 2, -1);
    }

    private static void hands(EatKnown x, int many, int kept, int... row) {
        check.stays("hands " + many + ": kept", x, () -> x.hands(many, 0), kept);
        for (int i = 0; i < row.length; i++) {
            int what = i + 1;
            check.stays("hands " + many + ", " + what, x, () -> x.hands(many, what), row[i]);
        }
        for (int i = 1; i < 4; i++) {
            int what = row.length + i;
            check.stays("hands " + many + ", " + what, x, () -> x.hands(many, what), -1);
        }
    }

    private static void hands0To4() {
        EatKnown x = Check.of("fact a;" + page("p", "true", 1, 1, "a") + "burn 5;");
        hands(x, 0, 500000);
        hands(x, 1, 750000, 0);
        hands(x, 2, 875000, 0, 0);
        hands(x, 3, 937500, 0, 0, 0);
        hands(x, 4, 968750, 0, 0, 0, 0);
        hands(x, 5, -1);
        hands(x, -1, -1);
        for (int far : FAR) {
            check.stays("many " + far, x, () -> x.hands(far, 0), -1);
            check.stays("what " + far, x, () -> x.hands(4, far), -1);
        }
    }

    private static void handsBeyond() {
        EatKnown x = Check.of("fact a;" + page("p", "true", 1, 1, "a") + "burn 5;");
        for (int many = 0; many <= 4; many++) {
            check.same("the last of " + many, x.hands(many, many), many == 0 ? 500000 : 0);
            check.same("beyond " + many, x.hands(many, many + 1), -1);
            check.same("below " + many, x.hands(many, -1), -1);
        }
    }

    private static void handsNineCopiesAtMost() {
        String text = "fact a;fact b;" + page("p", "true", 1, 8, "a") + page("q", "true", 1, 1, "b");
        EatKnown x = Check.of(text + "burn 9;");
        // p: .9 ^ 8 = .43046721, one more .387420489; q: .9, .81, ..
        hands(x, 0, 569532 + 100000);
        hands(x, 1, 569532 + 190000, 1);
        hands(x, 4, 569532 + 409510, 1, 1, 1, 1);
        EatKnown y = Check.of("fact a;" + page("p", "true", 1, 8, "a") + page("q", "lie", 1, 7, "a") + "burn 9;");
        hands(y, 1, 612579, 0);
        hands(y, 2, 612579, 0, 1);
        hands(y, 3, 612579, 0, 1, 1);
        EatKnown z = Check.of("fact a;" + page("p", "true", 1, 5, "a") + page("q", "true", 1, 9, "a") + "burn 5;");
        // .5 ^ 5 and four times half, times .001953125
        hands(z, 4, 999996, 0, 0, 0, 0);
        EatKnown six = Check.of("fact a;" + page("p", "true", 1, 6, "a") + page("q", "true", 1, 8, "a") + "burn 5;");
        hands(six, 4, 999996, 0, 0, 0, 1);
    }

    private static void handsNoPageCanBe() {
        EatKnown x = Check.of("fact a;fact b;" + page("p", "true", 1, 9, "a") + page("q", "true", 1, 0, "b") + "burn 0;");
        hands(x, 0, 1000000);
        hands(x, 1, -1);
        hands(x, 4, -1);
        EatKnown none = new EatKnown();
        hands(none, 0, 0);
        hands(none, 1, -1);
        EatKnown nine = Check.of("fact a;" + page("p", "true", 1, 9, "a") + people(1, 1));
        hands(nine, 1, -1);
        nine.eat(0, 0);
        hands(nine, 1, 1000000, 0);
        EatKnown zero = Check.of("fact a;" + page("p", "true", 1, 1, "a") + people(1, 1));
        hands(zero, 1, 1000000, 0);
        zero.eat(0, 0);
        hands(zero, 1, -1);
        hands(zero, 0, 1000000);
        zero.dies(0);
        hands(zero, 0, 0);
    }

    private static void handsBurn0And10() {
        String text = twelve(1, 1);
        EatKnown none = Check.of(text);
        hands(none, 0, 12000000);
        hands(none, 4, 12000000, 0, 0, 0, 0);
        EatKnown all = Check.of(text + people(1, 9) + "burn 10;");
        hands(all, 0, 0);
        hands(all, 4, 0, 0, 0, 0, 0);
        all.eat(0, 3);
        hands(all, 0, 1000000);
        hands(all, 1, 1000000, 0);
        EatKnown lost = Check.of("fact a;fact b;" + page("p", "lie", 1, 9, "a") + page("q", "true", 1, 1, "b"));
        hands(lost, 0, 1000000);
        hands(lost, 1, 1000000, 1);
        EatKnown nine = Check.of("fact a;" + page("p", "true", 1, 1, "a") + "burn 9;");
        hands(nine, 0, 100000);
        EatKnown one = Check.of("fact a;" + page("p", "true", 1, 1, "a") + "burn 1;");
        hands(one, 0, 900000);
        hands(one, 1, 990000, 0);
    }

    private static void handsCutCopyByCopyAndOneByOne() {
        // .7 to nine copies: 700000000 490000000 343000000 240100000 168070000 117649000 82354300 57648010 40353607
        EatKnown x = Check.of("fact a;" + page("p", "true", 1, 9, "a") + page("q", "true", 1, 9, "a") + page("r", "lie", 1, 9, "a")
            + page("s", "true", 1, 0, "a") + "burn 7;");
        // 40353607 * 40353607 / 1000000000 = 1628413, cut
        hands(x, 0, 998371);
        EatKnown many = Check.of(twelve(1, 0).replace("says b", "says a").replace("says c", "says a").replace("copies 0", "copies 9")
            + "burn 8;");
        // .8 to nine copies is 134217728: a 134217728 ^ 3 = 2417851 by cuts (18014398, then 2417851); the nine others
        long a = 1000000000L - 2417851L;
        long others = 9 * (1000000000L - 134217728L);
        check.same("134217728 twice", 134217728L * 134217728L / 1000000000L, 18014398L);
        check.same("three times", 18014398L * 134217728L / 1000000000L, 2417851L);
        hands(many, 0, (int) ((a + others) / 1000));
    }

    private static void handsByAThousandCut() {
        EatKnown x = Check.of("fact a;" + page("p", "true", 1, 9, "a") + "burn 1;");
        // lost by 1 billionth
        hands(x, 0, 999999);
        EatKnown y = Check.of("fact a;fact b;" + page("p", "true", 1, 9, "a") + page("q", "true", 1, 6, "b") + "burn 1;");
        // lost by 1 and by 1000
        hands(y, 0, 1999998);
        EatKnown z = Check.of("fact a;" + page("p", "true", 1, 6, "a") + "burn 1;");
        // lost by 1000
        hands(z, 0, 999999);
        EatKnown known = Check.of(twelve(1, 9) + people(1, 12));
        hands(known, 0, 12000000);
    }

    private static void handsOfEqualOnesTheFirstRow() {
        EatKnown x = Check.of("fact a;fact b;" + page("p", "true", 1, 1, "a") + page("q", "true", 1, 1, "b") + "burn 5;");
        hands(x, 1, 1250000, 0);
        hands(x, 3, 1625000, 0, 0, 1);
        EatKnown kept = Check.of("fact a;fact b;" + page("p", "true", 1, 8, "a") + page("q", "true", 1, 7, "b") + "burn 1;");
        // one more q loses less, but what is kept is cut to the same
        hands(kept, 1, 1999999, 0);
        EatKnown none = Check.of("fact a;" + page("p", "true", 1, 0, "a") + page("q", "lie", 1, 1, "a") + page("r", "true", 1, 9, "a")
            + page("s", "true", 1, 1, "a"));
        hands(none, 2, 1000000, 1, 1);
    }

    private static void price(EatKnown x, int page, int most, int whose) {
        check.stays("price " + page, x, () -> x.price(page, 0), most);
        check.stays("price " + page + ": whose", x, () -> x.price(page, 1), whose);
    }

    private static void priceNoneIsOthersNobodyAlive() {
        EatKnown x = Check.of(TEXT);
        price(x, 0, 7, 0);
        price(x, 3, 0, 0);
        price(x, 4, -1, -1);
        price(x, -1, -1, -1);
        check.same("what 2", x.price(0, 2), -1);
        check.same("what -1", x.price(0, -1), -1);
        for (int far : FAR) {
            price(x, far, -1, -1);
            check.same("what " + far, x.price(0, far), -1);
        }
        x.dies(0);
        price(x, 0, 7, 1);
        x.dies(1);
        x.dies(2);
        price(x, 0, -1, -1);
        price(new EatKnown(), 0, -1, -1);
        price(Check.of("fact a;" + page("p", "true", 1, 1, "a")), 0, -1, -1);
    }

    private static void priceTheMostByTheFirst() {
        EatKnown x = Check.of(TEXT);
        price(x, 1, 0, 0);
        x.eat(2, 0);
        price(x, 1, 9, 2);
        price(x, 0, 7, 0);
        x.eat(1, 1);
        price(x, 0, 16, 1);
        x.eat(0, 1);
        price(x, 0, 16, 0);
        x.eat(1, 0);
        x.eat(0, 0);
        price(x, 0, 0, 0);
        price(x, 1, 9, 2);
        price(x, 2, 0, 0);
        EatKnown most = Check.of(twelve(9, 0) + people(2, 0) + "task t worth 99 needs l;task u worth 99 needs l;task v worth 99 needs l;"
            + "task w worth 99 needs l;task z worth 99 needs l;");
        price(most, 11, 495, 0);
        price(most, 10, 0, 0);
    }

    private static void yearsNoneIsOthers() {
        EatKnown x = Check.of(TEXT.replace("die 0", "die 10"));
        for (int i = 0; i < 3; i++) {
            int what = i;
            check.stays("seed 0, one day", x, () -> x.years(0, 1, what) == -1 ? 1 : 0, 0);
            check.stays("seed 9999, 60 days", x, () -> x.years(9999, 60, what) == -1 ? 1 : 0, 0);
            check.stays("seed -1", x, () -> x.years(-1, 1, what), -1);
            check.stays("seed 10000", x, () -> x.years(10000, 1, what), -1);
            check.stays("0 days", x, () -> x.years(0, 0, what), -1);
            check.stays("61 days", x, () -> x.years(0, 61, what), -1);
            check.stays("-1 days", x, () -> x.years(0, -1, what), -1);
        }
        check.same("what 3", x.years(0, 1, 3), -1);
        check.same("what -1", x.years(0, 1, -1), -1);
        for (int far : FAR) {
            check.same("seed " + far, x.years(far, 1, 0), -1);
            check.same("days " + far, x.years(0, far, 0), -1);
            check.same("what " + far, x.years(0, 1, far), -1);
        }
        EatKnown none = new EatKnown();
        check.same("of nothing", none.years(0, 60, 0) + none.years(0, 60, 1) + none.years(0, 60, 2), 0);
    }

    /** The draws below m by a seed, one after the other. */
    private static final class Draws {
        private long g;

        Draws(int seed) {
            g = seed;
        }

        int below(int m) {
            g = java.math.BigInteger.valueOf(g).multiply(java.math.BigInteger.valueOf(1103515245))
                .add(java.math.BigInteger.valueOf(12345)).mod(java.math.BigInteger.valueOf(2147483648L)).longValue();
            return (int) (g / 65536 % m);
        }
    }

    private static void yearsDraws() {
        EatKnown x = Check.of(twelve(1, 1) + people(1, 40).replace("die 0", "die 1"));
        for (int seed = 0; seed < 10000; seed += seed == 9998 ? 1 : 707) {
            for (int days : new int[] {1, 2, 3, 11, 59, 60}) {
                Draws draws = new Draws(seed);
                int eaten = 0;
                int deaths = 0;
                for (int day = 0; day < days && deaths == 0; day++) {
                    eaten |= 1 << draws.below(12);
                    deaths += draws.below(10) < 1 ? 1 : 0;
                }
                check.same("eaten by " + seed, x.years(seed, days, 0), Integer.bitCount(eaten));
                check.same("deaths by " + seed, x.years(seed, days, 1), deaths);
                check.same("lost by " + seed, x.years(seed, days, 2), deaths * Integer.bitCount(eaten));
            }
        }
    }

    private static void yearsAllIsAsAhead() {
        EatKnown x = Check.of(TEXT.replace("die 0", "die 10"));
        x.eat(0, 0);
        x.days(3);
        for (int seed = 0; seed < 10000; seed += 1111) {
            int by = seed;
            int days = 1 + seed % 60;
            check.stays("all is as ahead", x, () -> x.years(by, days, 1), 3);
        }
        check.same("what can be undone", x.count(11), 2);
        for (int i = 0; i < 3; i++) {
            check.same("three, two, one are alive", x.years(5, 1, 1), 3 - i);
            x.dies(i);
        }
        check.same("so nobody dies", x.years(5, 60, 1), 0);
        check.same("nobody eats", x.years(5, 60, 0), 0);
        check.same("what is lost is lost", x.years(5, 60, 2), Integer.bitCount(x.lost()));
    }

    private static void thenTheDayPasses() {
        // one page of 3 a day, of two: in so many days both are eaten, but never on one
        EatKnown x = Check.of("fact a;" + page("p", "recipe", 3, 1, "a") + page("q", "recipe", 3, 1, "a") + people(1, 5));
        for (int seed = 0; seed < 10000; seed += 1111) {
            Draws draws = new Draws(seed);
            int eaten = 0;
            for (int day = 1; day <= 60; day++) {
                eaten |= 1 << draws.below(2);
                draws.below(10);
                check.same("eaten by " + seed + " in " + day, x.years(seed, day, 0), Integer.bitCount(eaten));
            }
        }
        x.eat(0, 0);
        check.same("room of today: 2 for 3", x.years(0, 1, 0) + x.years(1, 1, 0) + x.years(2, 1, 0) + x.years(3, 1, 0), 0);
        check.same("on other days there is", x.years(0, 60, 0), 1);
    }

    private static void yearsWithoutPagesNoDraw() {
        for (int seed = 0; seed < 10000; seed += 1111) {
            for (int die = 0; die <= 10; die++) {
                EatKnown x = Check.of(people(2, 9).replace("die 0", "die " + die));
                Draws draws = new Draws(seed);
                boolean[] dead = new boolean[2];
                for (int day = 0; day < 3; day++) {
                    for (int i = 0; i < 2; i++) {
                        dead[i] = dead[i] || draws.below(10) < die;
                    }
                }
                check.same("deaths by " + seed + ", die " + die, x.years(seed, 3, 1), (dead[0] ? 1 : 0) + (dead[1] ? 1 : 0));
                check.same("none eats", x.years(seed, 3, 0), 0);
            }
        }
        // with one page each alive has a draw, though there is but one to draw
        EatKnown one = Check.of("fact a;" + page("p", "true", 1, 0, "a") + people(1, 9).replace("die 0", "die 5"));
        for (int seed = 0; seed < 10000; seed += 1111) {
            Draws draws = new Draws(seed);
            draws.below(1);
            check.same("the second draw", one.years(seed, 1, 1), draws.below(10) < 5 ? 1 : 0);
        }
    }
}
