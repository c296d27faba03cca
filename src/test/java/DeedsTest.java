/** Promises 9 to 15 and 29: eating, bites, copying, deaths, days, undoing, what is lost, and marks. */
final class DeedsTest {
    private static final Check check = new Check();

    private static final String FACTS = "fact a;fact b;fact c;fact d;";
    private static final String PAGES = "page p true weigh 2 copies 2 says a;page q recipe weigh 3 copies 1 says b;"
        + "page r lie weigh 1 copies 1 says c;page s true weigh 4 copies 0 says c;page t true weigh 1 copies 9 says d;";
    private static final String PEOPLE = "person ann room 6 die 0;person ben room 5 die 1 heir ann;"
        + "person cat room 9 die 2 heir ben;";
    private static final String TEXT = FACTS + PAGES + PEOPLE;

    public static void main(String[] args) {
        eating();
        bites();
        biteFormulas();
        copying();
        copyFormulas();
        deaths();
        days();
        undoing();
        lost();
        marks();
        check.end();
    }

    private static void eating() {
        EatKnown x = Check.of(TEXT);
        check.same("ann eats p", x.eat(0, 0), true);
        check.same("not twice", x.eat(0, 0), false);
        check.same("one copy is gone", x.page(0, 2), 1);
        check.same("room is gone", x.person(0, 2), 4);
        check.same("a recipe", x.eat(0, 1), true);
        check.same("none of a recipe's copies is gone", x.page(1, 2), 1);
        check.same("just room enough", x.eat(0, 4), true);
        check.same("no room", x.person(0, 2), 0);
        check.same("no more", x.eat(0, 2), false);
        check.same("a lie by ben", x.eat(1, 2), true);
        check.same("the last copy", x.page(2, 2), 0);
        check.same("no copy", x.eat(2, 2), false);
        check.same("no copy of s", x.eat(2, 3), false);
        check.same("room 4, weight 2", x.eat(1, 0), true);
        check.same("room 2, weight 3", x.eat(1, 1), false);
        check.same("ben has eaten", x.person(1, 4), 5);
        check.same("nobody", x.eat(3, 0), false);
        check.same("nobody below", x.eat(-1, 0), false);
        check.same("no page", x.eat(0, 5), false);
        check.same("no page below", x.eat(0, -1), false);
        check.same("far", x.eat(Integer.MIN_VALUE, Integer.MAX_VALUE), false);
        x.dies(2);
        check.same("the dead", x.eat(2, 1), false);
        check.same("what can be undone", x.count(11), 6);
    }

    private static void bites() {
        EatKnown x = Check.of(TEXT);
        x.eat(0, 0);
        x.eat(0, 1);
        check.same("ben bites ann for p", x.bite(1, 0, 0), 1);
        check.same("ben has p", x.person(1, 4), 1);
        check.same("ann has q alone", x.person(0, 4), 2);
        check.same("ben's room", x.person(1, 2), 3);
        check.same("ann's room stays used", x.person(0, 2), 1);
        check.same("copies stay", x.page(0, 2), 1);
        check.same("she has not eaten that any more", x.bite(1, 0, 0), -1);
        check.same("room 3, weight 3", x.bite(1, 0, 1), 1);
        check.same("no room", x.bite(0, 1, 0), -1);
        check.same("himself", x.bite(1, 1, 0), -1);
        check.same("nobody bites", x.bite(3, 1, 0), -1);
        check.same("nobody bites below", x.bite(-1, 1, 0), -1);
        check.same("nobody is bitten", x.bite(2, 3, 0), -1);
        check.same("nobody is bitten below", x.bite(2, -1, 0), -1);
        check.same("no page", x.bite(2, 1, 5), -1);
        check.same("no page below", x.bite(2, 1, -1), -1);
        x.eat(2, 0);
        check.same("who has eaten it himself", x.bite(2, 1, 0), -1);
        x.days(1);
        check.same("ann eats it again", x.eat(0, 0), false);
        check.same("by a bite", x.bite(0, 1, 0), 1);
        x.dies(0);
        check.same("the dead is not bitten", x.bite(1, 0, 0), -1);
        check.same("the dead does not bite", x.bite(0, 1, 1), -1);
        check.same("nothing by that", x.person(1, 4), 2);
    }

    private static void biteLoss(String formula, int lost, int left) {
        EatKnown x = Check.of(TEXT + "bite " + formula + ";");
        for (int p = 0; p < 5; p++) {
            x.eat(2, p == 3 ? 0 : p);
        }
        check.same("cat has eaten four", x.person(2, 4), 23);
        check.same("bite " + formula, x.bite(1, 2, 1), lost);
        check.same("left by " + formula, x.person(2, 4), left);
        check.same("ben has q by " + formula, x.person(1, 4), 2);
    }

    private static void biteFormulas() {
        biteLoss("0", 1, 21);
        biteLoss("1", 2, 20);
        biteLoss("2", 3, 16);
        biteLoss("heavy", 4, 0);
        biteLoss("9999", 4, 0);
        biteLoss("0-1", 1, 21);
        biteLoss("0-heavy", 1, 21);
        biteLoss("has-2", 3, 16);
        biteLoss("has-3", 2, 20);
        biteLoss("has=4", 2, 20);
        biteLoss("not has", 1, 21);
        biteLoss("heavy<has and 7", 2, 20);
        biteLoss("0 and 1 or 1", 2, 20);
        biteLoss("1 or 1 and 0", 1, 21);
        biteLoss("1+2*0", 2, 20);
        biteLoss("(1+2)*0", 1, 21);
        biteLoss("5-2-1", 3, 16);
        biteLoss("not 0*2", 3, 16);
        biteLoss("not (0*2)+not 7", 2, 20);
        biteLoss("1+1<2", 1, 21);
        biteLoss("9999*9999*9999", 1, 21);
        biteLoss("9999*9999*9999<0", 2, 20);
    }

    private static void copying() {
        EatKnown x = Check.of(TEXT + "copy 2*there+heavy;");
        check.same("p: 2 copies, weight 2", x.copy(0), 6);
        check.same("one more", x.page(0, 2), 3);
        check.same("p again", x.copy(0), 8);
        check.same("spent", x.count(7), 14);
        check.same("a recipe", x.copy(1), 5);
        check.same("a lie", x.copy(2), 3);
        check.same("spent on all", x.count(7), 22);
        check.same("no copy", x.copy(3), -1);
        check.same("nine copies", x.copy(4), -1);
        check.same("no page", x.copy(5), -1);
        check.same("no page below", x.copy(-1), -1);
        for (int i = 4; i < 9; i++) {
            check.same("p to " + i, x.copy(0), 2 * i + 2);
        }
        check.same("nine now", x.page(0, 2), 9);
        check.same("no more", x.copy(0), -1);
        check.same("spent at last", x.count(7), 22 + 10 + 12 + 14 + 16 + 18);
        x.dies(0);
        x.dies(1);
        x.dies(2);
        check.same("with nobody alive", x.copy(1), 7);
    }

    private static void cost(String formula, int due) {
        EatKnown x = Check.of(TEXT + "copy " + formula + ";");
        check.same("copy " + formula, x.copy(0), due);
        check.same("spent by " + formula, x.count(7), due);
        check.same("one more by " + formula, x.page(0, 2), 3);
    }

    private static void copyFormulas() {
        EatKnown x = Check.of(TEXT);
        check.same("without E: heavy", x.copy(1), 3);
        cost("there", 2);
        cost("100", 99);
        cost("99", 99);
        cost("9999*9999", 99);
        cost("heavy-5", 0);
        cost("9999*9999*99", 99);
        cost("9999*9999*9999", 0);
        cost("(there+1)*(heavy+4)", 18);
        cost("heavy=2", 1);
        cost("5 and heavy", 1);
        cost("0 or 7", 1);
        cost("3 or 0 and 0", 0);
        cost("not there+1", 1);
        cost("2<1 or 1<2", 1);
        cost("1<2 and 2<1", 0);
        cost("1+".repeat(250).concat("1-").concat("1+".repeat(50)).concat("1-220"), 80);
        cost("0 or 0+1*not (2<1 and 0 or 1<1+1*(1+1))", 0);
        cost("0 or 0+1*not (2<1 or 0 or 1<1+1*(1-1))", 1);
        cost("2-2<1", 1);
        cost("9-2*3", 3);
        cost("9-2+3", 10);
        cost("2*3-4", 2);
        cost("2+3*4", 14);
        cost("heavy=3", 0);
        cost("0 or 0", 0);
        cost("1 or 0", 1);
        cost("0 and 0", 0);
        cost("1-1 or 0*7", 0);
        cost("(1=2)=0 and 7", 1);
    }

    private static void deaths() {
        EatKnown x = Check.of(TEXT);
        x.eat(1, 0);
        x.eat(1, 2);
        x.days(1);
        x.eat(1, 1);
        x.eat(1, 4);
        x.eat(0, 4);
        check.same("ann's room", x.person(0, 2), 5);
        check.same("ben dies: ann takes p and q, t she has, r has no room", x.dies(1), 3);
        check.same("ann's room then", x.person(0, 2), 0);
        check.same("ann has eaten", x.person(0, 4), 19);
        check.same("ben still has", x.person(1, 4), 23);
        check.same("copies stay", x.page(0, 2), 1);
        check.same("he is dead", x.person(1, 0), 0);
        check.same("not twice", x.dies(1), -1);
        check.same("cat's heir is dead", x.eat(2, 4), true);
        check.same("so none", x.dies(2), 0);
        check.same("ann has no heir", x.dies(0), 0);
        check.same("nobody", x.count(4), 0);
        check.same("no one", x.dies(3), -1);
        check.same("below", x.dies(-1), -1);

        EatKnown y = Check.of(TEXT.replace("person ben room 5", "person ben room 3"));
        y.eat(2, 0);
        y.eat(2, 1);
        y.eat(2, 2);
        check.same("p, then no room for q, then r", y.dies(2), 5);
        check.same("ben is full", y.person(1, 2), 0);
        y.days(1);
        check.same("ben dies: all to ann", y.dies(1), 5);
    }

    private static void days() {
        EatKnown x = Check.of(TEXT);
        x.eat(0, 0);
        x.eat(1, 1);
        check.same("a day", x.days(1), 1);
        check.same("ann's room is free", x.person(0, 2), 6);
        check.same("ben's room is free", x.person(1, 2), 5);
        check.same("a thousand", x.days(1000), 1001);
        check.same("none", x.days(0), -1);
        check.same("below", x.days(-1), -1);
        check.same("too many", x.days(1001), -1);
        check.same("the day stays", x.count(6), 1001);
        check.same("eaten stays", x.person(0, 4), 1);
    }

    private static void undoing() {
        EatKnown x = Check.of(TEXT + "copy 4;bite 5;");
        check.same("nothing", x.undo(), false);
        x.eat(0, 0);
        x.eat(0, 4);
        check.same("bite", x.bite(1, 0, 4), 2);
        x.copy(1);
        x.dies(1);
        x.days(7);
        check.same("six", x.count(11), 6);
        check.same("what can't be is not undone", x.eat(1, 1), false);
        check.same("nor a bite", x.bite(1, 0, 1), -1);
        check.same("nor a copy", x.copy(3), -1);
        check.same("nor a death", x.dies(1), -1);
        check.same("nor no days", x.days(0), -1);
        check.same("still six", x.count(11), 6);
        check.same("undo the days", x.undo(), true);
        check.same("day 0", x.count(6), 0);
        check.same("room as it was", x.person(0, 2), 2);
        check.same("five", x.count(11), 5);
        check.same("ben is still dead", x.person(1, 0), 0);
        check.same("undo the death", x.undo(), true);
        check.same("alive", x.person(1, 0), 1);
        check.same("the copy is still made", x.page(1, 2), 2);
        check.same("the heir has not that any more", x.person(0, 4), 0);
        check.same("undo the copy", x.undo(), true);
        check.same("copies", x.page(1, 2), 1);
        check.same("nothing spent", x.count(7), 0);
        check.same("ben still has bitten", x.person(1, 4), 16);
        check.same("undo the bite", x.undo(), true);
        check.same("ann has both", x.person(0, 4), 17);
        check.same("ben none", x.person(1, 4), 0);
        check.same("ben's room", x.person(1, 2), 5);
        check.same("undo", x.undo(), true);
        check.same("undo", x.undo(), true);
        check.same("ann none", x.person(0, 4), 0);
        check.same("p's copies", x.page(0, 2), 2);
        check.same("nothing more", x.undo(), false);

        EatKnown y = Check.of(TEXT);
        for (int i = 1; i <= 20; i++) {
            check.same("day", y.days(i), i * (i + 1) / 2);
            check.same("undoable", y.count(11), Math.min(i, 16));
        }
        check.same("history and what is told are not undone", Check.history(y, "night;"), 0);
        check.same("tell", y.tell(0, true), false);
        for (int i = 19; i >= 4; i--) {
            check.same("undo", y.undo(), true);
            check.same("day of undo", y.count(6), i * (i + 1) / 2);
        }
        check.same("the last 16 alone", y.undo(), false);
        check.same("history", y.count(8), 1);
        y.days(1);
        check.same("one again", y.count(11), 1);
    }

    private static void lost() {
        EatKnown x = Check.of(TEXT);
        check.same("c is said by a lie and by a page without copies", x.lost(), 4);
        x.eat(0, 2);
        check.same("who believes c does not know it", x.lost(), 4);
        x.eat(0, 0);
        x.eat(1, 0);
        check.same("a is known", x.lost(), 4);
        x.dies(1);
        check.same("ann knows a", x.lost(), 4);
        x.dies(0);
        check.same("nobody alive does", x.lost(), 5);
        x.undo();
        check.same("undone", x.lost(), 4);
        EatKnown y = Check.of("fact a;fact b;fact c;page p true weigh 1 copies 1 says a b;page q recipe weigh 1 copies 1 says c;");
        check.same("copies are enough", y.lost(), 0);
    }

    private static void marks() {
        String tasks = "task z worth 1 needs a;";
        EatKnown x = Check.of(TEXT + tasks + "copy 3;");
        check.same("nothing is on it", x.mark(0, true), false);
        check.same("none such", x.mark(4, false), false);
        check.same("none such to go back to", x.mark(4, true), false);
        check.same("none below", x.mark(-1, false), false);
        x.eat(0, 0);
        x.copy(0);
        x.tell(0, true);
        Check.history(x, "night;dies ann;");
        x.dies(2);
        x.days(2);
        x.eat(1, 0);
        check.same("laid", x.mark(3, false), true);
        check.same("laying leaves what can be undone", x.count(11), 5);
        x.eat(0, 1);
        x.copy(0);
        x.tell(0, false);
        x.tell(0, false);
        Check.history(x, "night;");
        x.dies(1);
        x.days(5);
        check.same("laid too", x.mark(0, false), true);
        check.same("back", x.mark(3, true), true);
        check.same("nothing can be undone", x.undo(), false);
        check.same("alive", x.count(4), 2);
        check.same("eaten", x.person(0, 4), 1);
        check.same("eaten by ben", x.person(1, 4), 1);
        check.same("room", x.person(1, 2), 3);
        check.same("copies", x.page(0, 2), 1);
        check.same("day", x.count(6), 2);
        check.same("spent", x.count(7), 3);
        check.same("history", x.count(8), 2);
        check.same("its last line loses nothing", x.judged(1), -1);
        check.same("told", x.count(9), 1);
        check.same("told what: a set of pages with p", x.guessed(2, 1), 1);
        x.days(1);
        check.same("back again", x.mark(3, true), true);
        check.same("day again", x.count(6), 2);
        check.same("to the other", x.mark(0, true), true);
        check.same("day of the other", x.count(6), 7);
        check.same("spent of the other", x.count(7), 6);
        check.same("history of the other", x.count(8), 1);
        check.same("told of the other", x.count(9), 3);
        check.same("alive of the other", x.count(4), 1);
        check.same("not to 1", x.mark(1, true), false);
        check.same("laid anew", x.mark(3, false), true);
        x.days(9);
        check.same("back to the new one", x.mark(3, true), true);
        check.same("its day", x.count(6), 7);
    }
}
