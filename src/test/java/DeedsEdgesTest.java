/** The edges that promises 5 to 16, 29 and 30 name, with their Terms; each method is for one sentence of the document. */
final class DeedsEdgesTest {
    private static final Check check = new Check();

    private static final int[] FAR = {Integer.MIN_VALUE, Integer.MIN_VALUE + 1, -65, -33, -32, -2, -1, 12, 13, 31, 32, 33, 64,
        1 << 16, Integer.MAX_VALUE - 1, Integer.MAX_VALUE};

    private static final String TEXT = "fact a;fact b leans a;fact c;page p true weigh 2 copies 3 says a;"
        + "page q recipe weigh 3 copies 1 says b;page r lie weigh 1 copies 2 says c;page s true weigh 4 copies 0 says c;"
        + "person ann room 5 die 0;person ben room 6 die 0 heir ann;person cat room 9 die 0 heir ben;"
        + "task t worth 7 needs a;task u worth 9 needs b;clash a c;";

    public static void main(String[] args) {
        ofAFactNoneIsOthers();
        ofAPageNoneIsOthers();
        ofAPersonOthersThrow();
        ofTheDeadToo();
        ofATaskNoneIsOthers();
        ofAllAtTheirLimits();
        understandsAllOnWhichItLeans();
        eatOneAlive();
        eatAPageWithACopy();
        eatWhatHeHasNotEaten();
        eatWhatHasRoom();
        oneCopyIsGoneNotOfARecipe();
        biteOneAliveAnotherOneAlive();
        biteWhatTheOtherHasEatenAndHeHasNot();
        biteWhatHasRoom();
        biteTakesSoManyOthers();
        biteTakesNoneIfItIsBelow();
        biteTakesTheLeastNumbersFirst();
        copyAPageWith1To8Copies();
        copySpends0To99();
        thereIsAheadOfTheCopy();
        diesOneAlive();
        heirsIfAlive();
        heirsHaveWhatHasRoom();
        heirsHaveWhatTheyHadNot();
        days1To1000();
        aDayFreesTheRoomOfAll();
        undoTheLast16();
        undoAndDoAgain();
        undoNothing();
        whatCanNotBeIsNotUndone();
        lostIfNobodyAliveKnows();
        judgedOthers();
        judgedEmptyAndFull();
        judgedFromTheLibraryAsTold();
        judgedLeavesOutWhatCanNotBe();
        aNightIsADay();
        judgedBites();
        lostThatWasNotAtFirst();
        marks0To3();
        marksHold();
        aMarkLeavesNothingToUndo();
        countOthers();
        countEach();
        check.end();
    }

    private static void ofAFactNoneIsOthers() {
        EatKnown x = Check.of(TEXT);
        check.same("the last fact", x.fact(2, 2), 12);
        check.stays("behind the last", x, () -> x.fact(3, 2), -1);
        check.same("the first fact", x.fact(0, 1), 4);
        check.same("the first page says it", x.fact(0, 2), 1);
        check.same("what 0", x.fact(1, 0), 1);
        check.same("what 3", x.fact(1, 3), -1);
        for (int far : FAR) {
            for (int what = -1; what <= 3; what++) {
                check.same("fact " + far, x.fact(far, what), -1);
            }
            check.same("what " + far, x.fact(0, far), -1);
        }
        EatKnown none = Check.of("person ann room 1 die 1;");
        check.same("no facts", none.fact(0, 0), -1);
    }

    private static void ofAPageNoneIsOthers() {
        EatKnown x = Check.of(TEXT);
        check.same("the last page", x.page(3, 3), 4);
        check.stays("behind the last", x, () -> x.page(4, 3), -1);
        check.same("the first page", x.page(0, 1), 2);
        check.same("what 0", x.page(1, 0), 2);
        check.same("what 4", x.page(1, 4), 0);
        check.same("what 5", x.page(1, 5), -1);
        for (int far : FAR) {
            for (int what = -1; what <= 5; what++) {
                check.same("page " + far, x.page(far, what), -1);
            }
            check.same("what " + far, x.page(0, far), -1);
        }
        EatKnown none = Check.of("fact a;");
        check.same("no pages", none.page(0, 0), -1);
    }

    private static void ofAPersonOthersThrow() {
        EatKnown x = Check.of(TEXT);
        check.same("the last person", x.person(2, 1), 9);
        check.nobody(x, 3, 1);
        check.same("the first person", x.person(0, 1), 5);
        check.nobody(x, -1, 1);
        check.same("what 0", x.person(0, 0), 1);
        check.same("what 8", x.person(0, 8), 0);
        check.nobody(x, 0, 9);
        check.nobody(x, 3, 9);
        for (int far : FAR) {
            for (int what = -1; what <= 9; what++) {
                check.nobody(x, far, what);
            }
            check.nobody(x, 0, far);
        }
        check.nobody(Check.of("fact a;"), 0, 0);
        String ahead = Check.all(x);
        check.nobody(x, 3, 0);
        check.same("what throws changes nothing", ahead.equals(Check.all(x)), true);
    }

    private static void ofTheDeadToo() {
        EatKnown x = Check.of(TEXT);
        x.eat(2, 0);
        x.eat(2, 1);
        x.eat(2, 2);
        x.eat(0, 2);
        check.same("the first has eaten it as well", x.page(2, 4), 5);
        x.dies(2);
        int[] due = {0, 9, 3, 1, 7, 3, 3, 7, 3};
        for (int what = 0; what < due.length; what++) {
            check.same("of the dead, what " + what, x.person(2, what), due[what]);
        }
        check.nobody(x, 2, 9);
        x.days(1);
        check.same("the room of all is free", x.person(2, 2), 9);
        check.same("but none of the dead has eaten as bits", x.page(2, 4), 3);
        check.same("nor can do a task as bits", x.task(0, 2), 2);
    }

    private static void ofATaskNoneIsOthers() {
        EatKnown x = Check.of(TEXT);
        check.same("the last task", x.task(1, 1), 2);
        check.stays("behind the last", x, () -> x.task(2, 1), -1);
        check.same("the first task", x.task(0, 0), 7);
        check.same("what 2", x.task(0, 2), 0);
        check.same("what 3", x.task(0, 3), -1);
        for (int far : FAR) {
            for (int what = -1; what <= 3; what++) {
                check.same("task " + far, x.task(far, what), -1);
            }
            check.same("what " + far, x.task(0, far), -1);
        }
        check.same("no tasks", Check.of("fact a;").task(0, 0), -1);
        x.eat(0, 0);
        check.same("the first can do it", x.task(0, 2), 1);
    }

    /** 12 facts, 12 pages, 6 people, 5 tasks: the last of each, and none behind it. */
    private static EatKnown full() {
        StringBuilder s = new StringBuilder();
        for (char c = 'a'; c <= 'l'; c++) {
            s.append("fact f").append(c).append(c == 'l' ? " leans fa fk;" : ";");
        }
        for (char c = 'a'; c <= 'l'; c++) {
            s.append("page p").append(c).append(" true weigh 2 copies 9 says f").append(c).append(';');
        }
        for (char c = 'a'; c <= 'f'; c++) {
            s.append("person h").append(c).append(" room 40 die 0").append(c == 'f' ? " heir he;" : ";");
        }
        for (char c = 'a'; c <= 'e'; c++) {
            s.append("task t").append(c).append(" worth 9 needs f").append(c == 'e' ? 'l' : c).append(';');
        }
        return Check.of(s.append("clash fk fl;").toString());
    }

    private static void ofAllAtTheirLimits() {
        EatKnown x = full();
        check.same("copies of all", x.count(5), 108);
        check.same("fact 11 leans", x.fact(11, 0), 1025);
        check.same("fact 11 clashes", x.fact(11, 1), 1024);
        check.same("fact 11 is said", x.fact(11, 2), 2048);
        check.same("no fact 12", x.fact(12, 0), -1);
        check.same("page 11 says", x.page(11, 3), 2048);
        check.same("no page 12", x.page(12, 0), -1);
        check.same("person 5's heir", x.person(5, 3), 4);
        check.nobody(x, 6, 0);
        check.same("task 4 needs", x.task(4, 1), 2048);
        check.same("no task 5", x.task(5, 0), -1);
        check.same("eat", x.eat(5, 11), true);
        check.same("no such page", x.eat(5, 12), false);
        check.same("no such person", x.eat(6, 11), false);
        check.same("he knows it", x.person(5, 5), 2048);
        check.same("but does not understand it", x.person(5, 6), 0);
        x.eat(5, 0);
        check.same("nor with one on which it leans", x.person(5, 6), 1);
        x.eat(5, 10);
        check.same("but with both", x.person(5, 6), 3073);
        check.same("so he can do two tasks", x.person(5, 8), 17);
        check.same("task 4 is done by person 5", x.task(4, 2), 32);
        check.same("page 11 is eaten by person 5", x.page(11, 4), 32);
        check.same("his heir has all", x.dies(5), 3073);
        check.same("task 4 is done by person 4", x.task(4, 2), 16);
        for (int page = 0; page < 12; page++) {
            x.eat(0, page);
        }
        check.same("24 of 40", x.person(0, 2), 16);
        check.same("all pages", x.person(0, 4), 4095);
        check.same("all facts", x.person(0, 6), 4095);
        check.same("all tasks", x.person(0, 8), 31);
    }

    /** Twelve facts, each leaning on the one ahead of it: one that he does not know takes all behind it. */
    private static void understandsAllOnWhichItLeans() {
        StringBuilder s = new StringBuilder("fact a;");
        for (char c = 'b'; c <= 'l'; c++) {
            s.append("fact ").append(c).append(" leans ").append((char) (c - 1)).append(';');
        }
        for (char c = 'a'; c <= 'l'; c++) {
            s.append("page p").append(c).append(" recipe weigh 1 copies 1 says ").append(c).append(';');
        }
        s.append("person ann room 40 die 0;task s worth 1 needs a;task t worth 1 needs l;");
        for (int missing = 0; missing < 12; missing++) {
            EatKnown x = Check.of(s.toString());
            check.same("nothing", x.person(0, 6), 0);
            for (int page = 11; page >= 0; page--) {
                if (page != missing) {
                    x.eat(0, page);
                }
            }
            check.same("all but one are known", x.person(0, 5), 4095 & ~(1 << missing));
            check.same("those ahead of it are understood", x.person(0, 6), (1 << missing) - 1);
            check.same("tasks", x.person(0, 8), missing == 0 ? 0 : 1);
            x.eat(0, missing);
            check.same("all are understood", x.person(0, 6), 4095);
            check.same("both tasks", x.person(0, 8), 3);
        }
    }

    private static void eatOneAlive() {
        EatKnown x = Check.of(TEXT);
        check.stays("behind the last", x, () -> x.eat(3, 0), false);
        check.stays("below the first", x, () -> x.eat(-1, 0), false);
        for (int far : FAR) {
            check.stays("person " + far, x, () -> x.eat(far, 0), false);
            check.stays("page " + far, x, () -> x.eat(0, far), false);
        }
        x.dies(1);
        check.stays("one dead", x, () -> x.eat(1, 0), false);
        check.same("the last person", x.eat(2, 0), true);
        check.same("the first person", x.eat(0, 0), true);
        EatKnown none = new EatKnown();
        check.stays("nobody, no pages", none, () -> none.eat(0, 0), false);
    }

    private static void eatAPageWithACopy() {
        EatKnown x = Check.of(TEXT);
        check.stays("no copy", x, () -> x.eat(2, 3), false);
        check.stays("behind the last", x, () -> x.eat(2, 4), false);
        check.stays("below the first", x, () -> x.eat(2, -1), false);
        check.same("two copies", x.eat(2, 2), true);
        check.same("one copy", x.eat(1, 2), true);
        check.same("none left", x.page(2, 2), 0);
        check.stays("so none", x, () -> x.eat(0, 2), false);
        check.same("a recipe without copies can't be eaten",
            Check.of(TEXT.replace("recipe weigh 3 copies 1", "recipe weigh 3 copies 0")).eat(0, 1), false);
    }

    private static void eatWhatHeHasNotEaten() {
        EatKnown x = Check.of(TEXT);
        check.same("once", x.eat(2, 0), true);
        check.stays("twice", x, () -> x.eat(2, 0), false);
        x.days(1);
        check.stays("on another day", x, () -> x.eat(2, 0), false);
        check.same("another page", x.eat(2, 1), true);
        check.stays("a recipe twice", x, () -> x.eat(2, 1), false);
    }

    private static void eatWhatHasRoom() {
        EatKnown x = Check.of("fact a;page p true weigh 5 copies 9 says a;page q true weigh 1 copies 9 says a;"
            + "page r true weigh 4 copies 9 says a;person aa room 4 die 0;"
            + "person ab room 5 die 0;person ac room 6 die 0;person ad room 0 die 0;");
        check.stays("room 4 for 5", x, () -> x.eat(0, 0), false);
        check.same("room 5 for 5", x.eat(1, 0), true);
        check.same("nothing is left", x.person(1, 2), 0);
        check.stays("room 0 for 1", x, () -> x.eat(1, 1), false);
        check.same("room 6 for 5", x.eat(2, 0), true);
        check.same("one is left", x.person(2, 2), 1);
        check.stays("room 1 for 4", x, () -> x.eat(2, 2), false);
        check.same("room 1 for 1", x.eat(2, 1), true);
        check.same("room 4 for 4", x.eat(0, 2), true);
        check.stays("never any room", x, () -> x.eat(3, 1), false);
        x.days(1);
        check.stays("nor on another day", x, () -> x.eat(3, 1), false);
        check.same("but for another", x.eat(1, 1), true);
    }

    private static void oneCopyIsGoneNotOfARecipe() {
        EatKnown x = Check.of(TEXT);
        x.eat(0, 0);
        check.same("true: one less", x.page(0, 2), 2);
        x.eat(0, 1);
        check.same("a recipe: as many", x.page(1, 2), 1);
        x.eat(1, 2);
        check.same("a lie: one less", x.page(2, 2), 1);
        x.eat(1, 1);
        check.same("a recipe again", x.page(1, 2), 1);
        check.same("copies of all", x.count(5), 4);
    }

    /** Cat has eaten p, q, r. */
    private static EatKnown bitable(String formula) {
        EatKnown x = Check.of(TEXT + formula);
        x.eat(2, 0);
        x.eat(2, 1);
        x.eat(2, 2);
        return x;
    }

    private static void biteOneAliveAnotherOneAlive() {
        EatKnown x = bitable("");
        check.stays("himself", x, () -> x.bite(2, 2, 0), -1);
        check.stays("nobody behind the last bites", x, () -> x.bite(3, 2, 0), -1);
        check.stays("nobody below bites", x, () -> x.bite(-1, 2, 0), -1);
        check.stays("nobody behind the last is bitten", x, () -> x.bite(0, 3, 0), -1);
        check.stays("nobody below is bitten", x, () -> x.bite(0, -1, 0), -1);
        for (int far : FAR) {
            check.stays("bite by " + far, x, () -> x.bite(far, 2, 0), -1);
            check.stays("bite of " + far, x, () -> x.bite(0, far, 0), -1);
            check.stays("bite for " + far, x, () -> x.bite(0, 2, far), -1);
        }
        x.dies(0);
        check.stays("the dead bites", x, () -> x.bite(0, 2, 0), -1);
        check.same("ben bites", x.bite(1, 2, 0), 1);
        EatKnown y = bitable("");
        y.dies(2);
        check.stays("the dead is bitten", y, () -> y.bite(0, 2, 0), -1);
        check.same("the heir is", y.bite(0, 1, 0), 1);
    }

    private static void biteWhatTheOtherHasEatenAndHeHasNot() {
        EatKnown x = bitable("");
        check.stays("s is eaten by nobody", x, () -> x.bite(0, 2, 3), -1);
        check.stays("no page 4", x, () -> x.bite(0, 2, 4), -1);
        check.stays("no page -1", x, () -> x.bite(0, 2, -1), -1);
        check.stays("ben has eaten nothing", x, () -> x.bite(0, 1, 0), -1);
        x.eat(0, 0);
        check.stays("ann has eaten p herself", x, () -> x.bite(0, 2, 0), -1);
        check.same("q she has not", x.bite(0, 2, 1), 1);
        check.stays("cat has q no more", x, () -> x.bite(1, 2, 1), -1);
        check.same("ann has", x.bite(1, 0, 1), 1);
        check.same("no copy is needed, none is gone", x.page(1, 2), 1);
    }

    private static void biteWhatHasRoom() {
        EatKnown x = bitable("");
        check.same("ann: 5 for 2", x.bite(0, 2, 0), 1);
        check.same("3 left", x.person(0, 2), 3);
        check.same("3 for 3", x.bite(0, 2, 1), 1);
        check.same("none left", x.person(0, 2), 0);
        check.stays("0 for 1", x, () -> x.bite(0, 2, 2), -1);
        check.same("the bitten one's room stays used", x.person(2, 2), 3);
        x.days(1);
        check.same("on another day", x.bite(0, 2, 2), 1);
        EatKnown y = Check.of(TEXT.replace("room 5", "room 2"));
        y.eat(1, 1);
        check.stays("2 for 3", y, () -> y.bite(0, 1, 1), -1);
        y.eat(2, 0);
        check.same("2 for 2", y.bite(0, 2, 0), 1);
    }

    private static void lossOf(String formula, int page, int lost, int left) {
        EatKnown x = bitable("bite " + formula + ";");
        check.same("bite " + formula, x.bite(1, 2, page), lost);
        check.same("what is left by " + formula, x.person(2, 4), left);
        check.same("who bites has that page alone", x.person(1, 4), 1 << page);
    }

    private static void biteTakesSoManyOthers() {
        lossOf("0", 0, 1, 6);
        lossOf("1", 0, 2, 4);
        lossOf("2", 0, 3, 0);
        lossOf("3", 0, 3, 0);
        lossOf("9999", 0, 3, 0);
        lossOf("2048*1024*1024-1", 0, 3, 0);
        lossOf("heavy", 0, 3, 0);
        lossOf("heavy", 2, 2, 2);
        lossOf("heavy", 1, 3, 0);
        EatKnown alone = Check.of(TEXT + "bite 9;");
        alone.eat(0, 0);
        check.same("there are no others", alone.bite(1, 0, 0), 1);
        check.same("nothing is left", alone.person(0, 4), 0);
    }

    private static void biteTakesNoneIfItIsBelow() {
        lossOf("0-1", 0, 1, 6);
        lossOf("0-9999", 0, 1, 6);
        lossOf("2048*1024*1024", 0, 1, 6);
        lossOf("2048*1024*1024+1", 0, 1, 6);
        lossOf("4096*1024*1024+1", 0, 2, 4);
    }

    private static void biteTakesTheLeastNumbersFirst() {
        lossOf("1", 0, 2, 4);
        lossOf("1", 1, 2, 4);
        lossOf("1", 2, 2, 2);
        StringBuilder s = new StringBuilder("fact a;");
        for (char c = 'a'; c <= 'l'; c++) {
            s.append("page p").append(c).append(" recipe weigh 1 copies 1 says a;");
        }
        String people = "person aa room 40 die 0;person bb room 40 die 0;";
        EatKnown y = Check.of(s + people + "bite 10;");
        EatKnown z = Check.of(s + people + "bite 11;");
        for (int page = 0; page < 12; page++) {
            y.eat(0, page);
            z.eat(0, page);
        }
        check.same("one and ten others of twelve", y.bite(1, 0, 5), 11);
        check.same("the last is left", y.person(0, 4), 1 << 11);
        check.same("one and eleven others", z.bite(1, 0, 11), 12);
        check.same("none is left", z.person(0, 4), 0);
    }

    private static void copyAPageWith1To8Copies() {
        EatKnown x = Check.of("fact a;page p true weigh 1 copies 0 says a;page q lie weigh 1 copies 1 says a;"
            + "page r true weigh 1 copies 8 says a;page s recipe weigh 1 copies 9 says a;person h room 9 die 0;");
        check.stays("0 copies", x, () -> x.copy(0), -1);
        check.same("1 copy", x.copy(1), 1);
        check.same("2 then", x.page(1, 2), 2);
        check.same("8 copies", x.copy(2), 1);
        check.same("9 then", x.page(2, 2), 9);
        check.stays("9 copies", x, () -> x.copy(2), -1);
        check.stays("9 of a recipe", x, () -> x.copy(3), -1);
        check.stays("page 4", x, () -> x.copy(4), -1);
        check.stays("page -1", x, () -> x.copy(-1), -1);
        for (int far : FAR) {
            check.stays("page " + far, x, () -> x.copy(far), -1);
        }
        x.eat(0, 2);
        check.same("8 again", x.copy(2), 1);
        EatKnown none = new EatKnown();
        check.stays("no pages", none, () -> none.copy(0), -1);
    }

    private static void cost(String formula, int due) {
        EatKnown x = Check.of("fact a;page p true weigh 9 copies 3 says a;copy " + formula + ";");
        check.same("copy " + formula, x.copy(0), due);
        check.same("is spent", x.count(7), due);
        check.same("the copy is there", x.page(0, 2), 4);
    }

    private static void copySpends0To99() {
        cost("0-1", 0);
        cost("0", 0);
        cost("1", 1);
        cost("98", 98);
        cost("99", 99);
        cost("100", 99);
        cost("2048*1024*1024-1", 99);
        cost("2048*1024*1024", 0);
        EatKnown x = Check.of("fact a;page p true weigh 9 copies 1 says a;page q true weigh 9 copies 1 says a;copy 100;");
        for (int i = 1; i <= 16; i++) {
            x.copy(i % 2);
            check.same("spent", x.count(7), 99 * i);
        }
        check.stays("no more", x, () -> x.copy(0), -1);
    }

    private static void thereIsAheadOfTheCopy() {
        EatKnown x = Check.of("fact a;page p true weigh 9 copies 1 says a;copy there;");
        for (int there = 1; there <= 8; there++) {
            check.same("there", x.copy(0), there);
        }
        check.stays("nine", x, () -> x.copy(0), -1);
        check.same("1 to 8", x.count(7), 36);
    }

    private static void diesOneAlive() {
        EatKnown x = Check.of(TEXT);
        check.stays("person 3", x, () -> x.dies(3), -1);
        check.stays("person -1", x, () -> x.dies(-1), -1);
        for (int far : FAR) {
            check.stays("person " + far, x, () -> x.dies(far), -1);
        }
        check.same("the last", x.dies(2), 0);
        check.stays("he is dead", x, () -> x.dies(2), -1);
        check.same("the first", x.dies(0), 0);
        check.same("one is alive", x.count(4), 1);
        check.same("the last one", x.dies(1), 0);
        check.same("nobody is", x.count(4), 0);
        check.stays("nobody", x, () -> x.dies(1), -1);
        EatKnown none = new EatKnown();
        check.stays("no people", none, () -> none.dies(0), -1);
    }

    private static void heirsIfAlive() {
        EatKnown x = bitable("");
        x.dies(1);
        check.same("the heir is dead", x.dies(2), 0);
        check.same("he has none of it", x.person(1, 4), 0);
        check.same("nor his heir", x.person(0, 4), 0);
        EatKnown y = Check.of(TEXT);
        y.eat(0, 0);
        check.same("no heir", y.dies(0), 0);
        EatKnown z = bitable("");
        check.same("an heir alive: p 2 q 3 r 1 of 6", z.dies(2), 7);
        check.same("and then his heir: p 2 q 3 of 5", z.dies(1), 3);
    }

    private static void heirsHaveWhatHasRoom() {
        EatKnown x = Check.of(TEXT.replace("ben room 6", "ben room 5"));
        x.eat(2, 0);
        x.eat(2, 1);
        x.eat(2, 2);
        check.same("2 + 3 of 5, none for 1", x.dies(2), 3);
        check.same("none is left", x.person(1, 2), 0);
        EatKnown y = Check.of(TEXT.replace("ben room 6", "ben room 4"));
        y.eat(2, 0);
        y.eat(2, 1);
        y.eat(2, 2);
        check.same("2 of 4, not 3 of 2, 1 of 2", y.dies(2), 5);
        check.same("one is left", y.person(1, 2), 1);
        EatKnown z = Check.of(TEXT.replace("ben room 6", "ben room 0"));
        z.eat(2, 0);
        check.same("no room", z.dies(2), 0);
        EatKnown w = bitable("");
        w.eat(1, 0);
        w.eat(1, 1);
        check.same("room left today: 1 of 1", w.dies(2), 4);
        check.same("none", w.person(1, 2), 0);
        check.same("copies stay", w.page(2, 2), 1);
    }

    private static void heirsHaveWhatTheyHadNot() {
        EatKnown x = bitable("");
        x.eat(1, 0);
        check.same("q and r", x.dies(2), 6);
        check.same("p's room once", x.person(1, 2), 0);
        check.same("all three", x.person(1, 4), 7);
        EatKnown y = bitable("");
        y.eat(1, 0);
        y.eat(1, 1);
        y.eat(1, 2);
        check.same("nothing", y.dies(2), 0);
        check.same("the dead keeps his", y.person(2, 4), 7);
    }

    private static void days1To1000() {
        EatKnown x = Check.of(TEXT);
        check.stays("0", x, () -> x.days(0), -1);
        check.stays("-1", x, () -> x.days(-1), -1);
        check.stays("1001", x, () -> x.days(1001), -1);
        check.stays("least", x, () -> x.days(Integer.MIN_VALUE), -1);
        check.stays("most", x, () -> x.days(Integer.MAX_VALUE), -1);
        check.same("1", x.days(1), 1);
        check.same("1000", x.days(1000), 1001);
        check.same("999", x.days(999), 2000);
        for (int i = 1; i <= 300; i++) {
            check.same("days have no end", x.days(1000), 2000 + 1000 * i);
        }
    }

    private static void aDayFreesTheRoomOfAll() {
        EatKnown x = Check.of(TEXT);
        x.eat(0, 0);
        x.eat(1, 0);
        x.eat(2, 1);
        x.dies(1);
        x.days(1);
        check.same("ann", x.person(0, 2), 5);
        check.same("ben, dead", x.person(1, 2), 6);
        check.same("cat", x.person(2, 2), 9);
        check.same("what is eaten stays", x.person(2, 4), 2);
        check.same("copies stay", x.page(0, 2), 1);
    }

    private static void undoTheLast16() {
        for (int deeds = 0; deeds <= 40; deeds++) {
            EatKnown x = Check.of(TEXT);
            for (int i = 0; i < deeds; i++) {
                x.days(1);
            }
            int many = Math.min(deeds, 16);
            check.same("what can be undone of " + deeds, x.count(11), many);
            for (int i = 1; i <= many; i++) {
                check.same("undo", x.undo(), true);
                check.same("one by one", x.count(6), deeds - i);
                check.same("one less", x.count(11), many - i);
            }
            check.stays("no more than 16", x, x::undo, false);
            check.same("the day of then", x.count(6), deeds - many);
            x.days(3);
            check.same("one can be again", x.count(11), 1);
            check.same("undo that", x.undo(), true);
            check.same("the same day", x.count(6), deeds - many);
        }
    }

    private static void undoAndDoAgain() {
        for (int back = 0; back <= 16; back++) {
            for (int again = 0; again <= 18; again++) {
                EatKnown x = Check.of(TEXT);
                for (int i = 0; i < 20; i++) {
                    x.days(1);
                }
                for (int i = 0; i < back; i++) {
                    x.undo();
                }
                for (int i = 0; i < again; i++) {
                    x.days(10);
                }
                int many = Math.min(16, 16 - back + again);
                check.same("what can be undone", x.count(11), many);
                for (int i = 1; i <= many; i++) {
                    check.same("undo", x.undo(), true);
                    int due = i <= again ? 20 - back + 10 * (again - i) : 20 - back - (i - again);
                    check.same("the day of " + back + " back, " + again + " again, " + i, x.count(6), due);
                }
                check.same("no more", x.undo(), false);
            }
        }
    }

    private static void undoNothing() {
        EatKnown x = new EatKnown();
        check.stays("a new object", x, x::undo, false);
        check.same("a library", Check.library(x, TEXT), 0);
        check.stays("a library", x, x::undo, false);
        String fresh = Check.all(x);
        check.same("eat", x.eat(2, 0), true);
        String[] then = new String[6];
        then[0] = Check.all(x);
        check.same("bite", x.bite(1, 2, 0), 1);
        then[1] = Check.all(x);
        check.same("copy", x.copy(2), 1);
        then[2] = Check.all(x);
        check.same("dies", x.dies(1), 1);
        then[3] = Check.all(x);
        check.same("days", x.days(1000), 1000);
        for (int i = 3; i >= 0; i--) {
            check.same("undo", x.undo(), true);
            check.same("all is as it was", then[i].equals(Check.all(x)), true);
        }
        check.same("the first, too", x.undo(), true);
        check.same("all is as at first", fresh.equals(Check.all(x)), true);
        check.stays("nothing more", x, x::undo, false);
    }

    private static void whatCanNotBeIsNotUndone() {
        EatKnown x = Check.of(TEXT);
        x.eat(0, 0);
        for (int i = 0; i < 20; i++) {
            x.eat(0, 0);
            x.bite(0, 0, 0);
            x.copy(3);
            x.dies(7);
            x.days(0);
            x.tell(0, true);
            x.mark(0, false);
            Check.history(x, "night;");
            x.mark(1, true);
        }
        check.same("one deed", x.count(11), 1);
        check.same("undone", x.undo(), true);
        check.same("ann has not eaten", x.person(0, 4), 0);
        check.same("what is told is not undone", x.count(9), 12);
        check.same("nor the history", x.count(8), 1);
        check.same("nor a mark", x.mark(0, true), true);
        check.same("on which she has eaten", x.person(0, 4), 1);
    }

    private static void lostIfNobodyAliveKnows() {
        EatKnown x = Check.of(TEXT);
        check.same("c: by a lie with copies, by a true one without", x.lost(), 4);
        EatKnown y = Check.of(TEXT.replace("weigh 4 copies 0", "weigh 4 copies 1"));
        check.same("one copy is enough", y.lost(), 0);
        y.eat(0, 3);
        check.same("no copy, but one alive knows it", y.lost(), 0);
        y.dies(0);
        check.same("nobody alive", y.lost(), 4);
        EatKnown z = Check.of("fact a;fact b;");
        check.same("no pages: all", z.lost(), 3);
        check.same("no facts: none", new EatKnown().lost(), 0);
        EatKnown bitten = Check.of("fact a;fact b;page p true weigh 1 copies 1 says a;page q true weigh 1 copies 1 says b;"
            + "person ann room 9 die 0;person ben room 9 die 0;bite 1;");
        bitten.eat(0, 0);
        bitten.eat(0, 1);
        check.same("ann knows both", bitten.lost(), 0);
        bitten.bite(1, 0, 0);
        check.same("the bite takes b from her, too", bitten.lost(), 2);
        check.same("all facts of a full library are there", full().lost(), 0);
    }

    private static void judge(String history, int wrong, int first, int lost) {
        EatKnown x = Check.of(TEXT);
        check.same("history " + history, Check.history(x, history), 0);
        check.stays("judged 0 of " + history, x, () -> x.judged(0), wrong);
        check.stays("judged 1 of " + history, x, () -> x.judged(1), first);
        check.stays("judged 2 of " + history, x, () -> x.judged(2), lost);
    }

    private static void judgedOthers() {
        EatKnown x = Check.of(TEXT);
        check.same("what 0", x.judged(0), -1);
        check.same("what 2", x.judged(2), 4);
        check.stays("what 3", x, () -> x.judged(3), -2);
        check.stays("what -1", x, () -> x.judged(-1), -2);
        for (int far : FAR) {
            check.same("what " + far, x.judged(far), -2);
        }
        check.same("on a new object", new EatKnown().judged(3), -2);
    }

    private static void judgedEmptyAndFull() {
        judge("", -1, -1, 4);
        judge("dies ann;".repeat(24), 1, -1, 4);
        judge("night;".repeat(23) + "bite ann ben p;", 23, -1, 4);
        judge("bite ann ben p;" + "night;".repeat(23), 0, -1, 4);
        judge("eat ann p;night;eat ben p;night;eat cat p;" + "night;".repeat(15) + "dies cat;dies ben;dies ann;night;", -1, 22, 5);
        judge("eat ann p;night;eat ben p;night;eat cat p;" + "night;".repeat(15) + "dies cat;dies ben;night;dies ann;", -1, 23, 5);
    }

    private static void judgedFromTheLibraryAsTold() {
        EatKnown x = Check.of(TEXT);
        Check.history(x, "eat ann p;eat ann q;");
        x.dies(0);
        x.eat(1, 0);
        x.eat(2, 0);
        check.same("ann is alive in it, and there are copies", x.judged(0), -1);
        EatKnown y = Check.of(TEXT);
        Check.history(y, "eat ann q;eat ann p;eat ann r;night;eat ann r;");
        y.days(9);
        check.same("room as told, free by the night", y.judged(0), 2);
        EatKnown z = Check.of(TEXT);
        z.eat(0, 0);
        z.eat(1, 0);
        z.eat(2, 0);
        z.dies(0);
        z.dies(1);
        z.dies(2);
        check.same("lost by hand", z.lost(), 5);
        check.same("not in the history", z.judged(2), 4);
    }

    private static void judgedLeavesOutWhatCanNotBe() {
        judge("eat cat p;eat cat q;eat cat r;eat cat s;eat cat p;", 3, -1, 4);
        judge("eat ann q;eat ann p;eat ann r;eat ben r;eat cat r;eat ann r;", 2, -1, 4);
        judge("copy s;eat cat s;dies cat;", 0, -1, 4);
        judge("eat ann p;eat ben p;eat cat p;eat ann s;dies ann;dies ann;dies ben;dies cat;", 3, 7, 5);
        judge("eat cat p;eat ben p;eat ann p;dies ben;bite ben ann p;dies ann;dies cat;", 4, 6, 5);
    }

    private static void aNightIsADay() {
        judge("eat ann q;eat ann p;eat ann r;", 2, -1, 4);
        judge("eat ann q;eat ann p;night;eat ann r;", -1, -1, 4);
        judge("night;eat ann q;eat ann p;eat ann r;", 3, -1, 4);
        judge("eat cat p;eat cat q;eat cat r;eat ann q;eat ann p;dies ben;night;bite ann cat r;", -1, -1, 4);
        judge("eat cat p;eat cat q;eat cat r;eat ann q;eat ann p;dies ben;bite ann cat r;", 6, -1, 4);
    }

    private static void judgedBites() {
        judge("eat cat p;bite ben cat p;bite ann ben p;", -1, -1, 4);
        judge("eat cat p;bite cat ben p;", 1, -1, 4);
        judge("eat cat p;bite ann ben p;", 1, -1, 4);
        judge("eat cat p;bite ben cat p;bite ann cat p;", 2, -1, 4);
        judge("eat ann p;bite ann ann p;", 1, -1, 4);
        judge("dies ann;eat cat p;bite ann cat p;", 2, -1, 4);
        judge("eat cat p;dies ann;bite ann cat p;bite ben cat p;bite ben cat p;", 2, -1, 4);
    }

    private static void lostThatWasNotAtFirst() {
        judge("night;", -1, -1, 4);
        String text = "fact a;page p true weigh 1 copies 1 says a;person ann room 1 die 0;person ben room 1 die 0;";
        EatKnown x = Check.of(text);
        Check.history(x, "eat ann p;dies ann;");
        check.same("lost behind line 1", x.judged(1), 1);
        check.same("a is lost at last", x.judged(2), 1);
        EatKnown y = Check.of(text.replace("page p", "page q true weigh 1 copies 1 says a;page p") + "bite 1;");
        Check.history(y, "eat ann p;eat ben q;bite ann ben q;dies ann;");
        check.same("no room for the bite", y.judged(0), 2);
        check.same("so ben still knows it", y.judged(1), -1);
        check.same("nothing is lost", y.judged(2), 0);
        EatKnown z = Check.of("fact a;fact b;page p true weigh 1 copies 1 says a;page q true weigh 1 copies 1 says b;"
            + "person ann room 9 die 0;person ben room 9 die 0;bite 1;");
        Check.history(z, "eat ann p;eat ann q;bite ben ann p;night;");
        check.same("the bite takes q, which nobody has then", z.judged(1), 2);
        check.same("b is lost", z.judged(2), 2);
    }

    private static void marks0To3() {
        EatKnown x = Check.of(TEXT);
        for (int mark = 0; mark < 4; mark++) {
            int which = mark;
            check.stays("nothing is on it", x, () -> x.mark(which, true), false);
        }
        check.stays("-1", x, () -> x.mark(-1, false), false);
        check.stays("4", x, () -> x.mark(4, false), false);
        check.stays("-1 back", x, () -> x.mark(-1, true), false);
        check.stays("4 back", x, () -> x.mark(4, true), false);
        for (int far : FAR) {
            check.stays("mark " + far, x, () -> x.mark(far, false), false);
            check.stays("mark back " + far, x, () -> x.mark(far, true), false);
        }
        for (int mark = 0; mark < 4; mark++) {
            int which = mark;
            x.days(mark + 1);
            check.stays("laid", x, () -> x.mark(which, false), true);
        }
        int[] days = {1, 3, 6, 10};
        for (int mark = 3; mark >= 0; mark--) {
            check.same("back", x.mark(mark, true), true);
            check.same("its day", x.count(6), days[mark]);
        }
        check.stays("what is refused undoes nothing", x, () -> x.mark(4, true), false);
        x.days(1);
        check.same("a refused one forgets nothing", x.mark(7, true), false);
        check.same("so that can be undone", x.undo(), true);
        EatKnown y = new EatKnown();
        check.same("on a new object", y.mark(3, false), true);
        check.same("and back", y.mark(3, true), true);
    }

    private static void marksHold() {
        EatKnown x = Check.of(TEXT + "copy 3;");
        x.eat(2, 0);
        x.copy(2);
        x.tell(0, true);
        x.tell(1, false);
        Check.history(x, "bite cat ben p;dies ann;");
        x.dies(0);
        x.days(2);
        x.eat(1, 1);
        String held = Check.all(x);
        x.mark(2, false);
        x.undo();
        x.undo();
        x.undo();
        check.same("ann is alive", x.person(0, 0), 1);
        x.eat(0, 1);
        x.copy(0);
        x.tell(1, true);
        x.tell(0, false);
        Check.history(x, "dies cat;");
        check.same("back", x.mark(2, true), true);
        check.same("nothing can be undone", x.count(11), 0);
        check.same("all else is as held", held.replaceFirst("^((\\S+ ){11})\\S+", "$10").equals(Check.all(x)), true);
        x.days(1);
        x.eat(2, 1);
        check.same("twice", x.mark(2, true), true);
        check.same("a mark stays when it is gone back to", held.replaceFirst("^((\\S+ ){11})\\S+", "$10").equals(Check.all(x)),
            true);
        x.dies(1);
        check.same("laid anew", x.mark(2, false), true);
        check.same("back", x.mark(2, true), true);
        check.same("ben is dead on it now", x.person(1, 0), 0);
        check.same("the tape is not held", Check.say(x, "abc"), 3);
        x.mark(2, true);
        check.same("nor taken", x.count(12), 3);
    }

    private static void aMarkLeavesNothingToUndo() {
        EatKnown x = Check.of(TEXT);
        x.days(1);
        x.mark(0, false);
        check.same("laying leaves it", x.count(11), 1);
        check.same("back", x.mark(0, true), true);
        check.stays("nothing can be undone", x, x::undo, false);
        x.days(1);
        x.mark(1, true);
        check.same("nothing is on 1: that can be undone", x.count(11), 1);
        check.same("undone", x.undo(), true);
        check.same("to the day of the mark", x.count(6), 1);
        for (int i = 0; i < 20; i++) {
            x.days(1);
        }
        x.mark(0, true);
        check.stays("nor of 16", x, x::undo, false);
        for (int i = 0; i < 17; i++) {
            x.days(1);
        }
        check.same("16 again", x.count(11), 16);
        check.same("undo", x.undo(), true);
        check.same("the day", x.count(6), 17);
    }

    private static void countOthers() {
        EatKnown x = Check.of(TEXT);
        check.stays("13", x, () -> x.count(13), -1);
        check.stays("-1", x, () -> x.count(-1), -1);
        for (int far : FAR) {
            if (far != 12) {
                check.same("count " + far, x.count(far), -1);
            }
        }
    }

    private static void countEach() {
        EatKnown x = full();
        int[] due = {12, 12, 6, 5, 6, 108, 0, 0, 0, 0, 0, 0, 0};
        for (int what = 0; what < due.length; what++) {
            check.same("full: count " + what, x.count(what), due[what]);
        }
        for (int i = 0; i < 6; i++) {
            check.same("dies", x.dies(i), 0);
            check.same("alive", x.count(4), 5 - i);
        }
        check.same("people stay", x.count(2), 6);
        EatKnown y = Check.of("fact a;page p true weigh 1 copies 0 says a;burn 10;");
        check.same("no copies", y.count(5), 0);
        check.same("burn", y.count(10), 10);
    }
}
