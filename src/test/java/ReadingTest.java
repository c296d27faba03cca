/** Promises 1 to 4: a new object, feed, library and history, with all their faults. */
final class ReadingTest {
    private static final Check check = new Check();

    private static final String BASE = "fact fa;fact fb;fact fc;page pa true weigh 1 copies 1 says fa;"
        + "person ha room 5 die 0;task ta worth 1 needs fa;clash fa fb;";

    public static void main(String[] args) {
        newObject();
        feed();
        tokens();
        statements();
        facts();
        pages();
        clashes();
        people();
        tasks();
        onceOnly();
        formulas();
        depth();
        limits();
        whatReadingLeaves();
        nothingOfAnEarlierOne();
        histories();
        check.end();
    }

    private static void newObject() {
        EatKnown x = new EatKnown();
        for (int what = 0; what <= 12; what++) {
            check.same("new: count " + what, x.count(what), 0);
        }
        check.same("NONE", EatKnown.NONE, -1);
        check.same("new: lost", x.lost(), 0);
        check.same("new: fact", x.fact(0, 0), -1);
        check.same("new: page", x.page(0, 0), -1);
        check.nobody(x, 0, 0);
        check.same("new: task", x.task(0, 0), -1);
        check.same("new: eat", x.eat(0, 0), false);
        check.same("new: bite", x.bite(0, 1, 0), -1);
        check.same("new: copy", x.copy(0), -1);
        check.same("new: dies", x.dies(0), -1);
        check.same("new: undo", x.undo(), false);
        check.same("new: judged 0", x.judged(0), -1);
        check.same("new: judged 1", x.judged(1), -1);
        check.same("new: judged 2", x.judged(2), 0);
        check.same("new: meal", x.meal(0, 0, 0), -1);
        check.same("new: safe", x.safe(0), 0);
        check.same("new: sit", x.sit(0), -1);
        check.same("new: evenings", x.evenings(), 0);
        check.same("new: tell", x.tell(0, true), false);
        check.same("new: guessed 0", x.guessed(0, 0), 1);
        check.same("new: guessed 3", x.guessed(0, 3), -1);
        check.same("new: unlearn", x.unlearn(0), -1);
        check.same("new: lies 2", x.lies(2), 1);
        check.same("new: rests", x.rests(3, -1), -1);
        check.same("new: hands 0", x.hands(0, 0), 0);
        check.same("new: price", x.price(0, 0), -1);
        check.same("new: years", x.years(1, 1, 0), 0);
        check.same("new: mark back", x.mark(0, true), false);
        check.same("new: mark", x.mark(0, false), true);
        check.same("new: days", x.days(1), 1);
        check.same("new: history", x.history(), 0);
        check.same("new: library", x.library(), 0);
        check.same("new: no mark behind a library", x.mark(0, true), false);
    }

    private static void feed() {
        EatKnown x = new EatKnown();
        check.same("feed nothing", x.feed(0, 0, 0), 0);
        check.same("feed highest first", x.feed(0x6661637420613b00L, 0, 0), 7);
        check.same("that is fact a;", x.library(), 0);
        check.same("one fact", x.count(0), 1);
        check.same("feed edges", x.feed(0x0a1f207e7f80ff09L, 0, 0x0b00000000000041L), 4);
        check.same("feed goes on", x.feed(-1L, 0x0a0a0a0a0a0a0a0aL, -1L), 12);
        check.same("signs on the tape", x.count(12), 12);
        for (int i = 0; i < 41; i++) {
            x.feed(0x2020202020202020L, 0x2020202020202020L, 0x2020202020202020L);
        }
        check.same("996", x.count(12), 996);
        check.same("at most 1000", x.feed(0x2020202041414141L, 0x4141414141414141L, 0x4141414141414141L), 1000);
        check.same("full", x.feed(0x4141414141414141L, 0, 0), 1000);
        check.same("the first sign that is none is ~ behind a line's end and a blank", x.library(), 1 + 16 * 2);
        check.same("taken", x.count(12), 0);

        EatKnown a = new EatKnown();
        a.feed(0x6661637400000020L, 0x613bL << 48, 0);
        check.same("order of a, b, c", a.library(), 0);
        check.same("order of a, b, c: a fact", a.count(0), 1);
    }

    private static void tokens() {
        check.fault("", 0, 0);
        check.fault(" \n ", 0, 0);
        check.fault("\n fact\nabcdefgh\n;\n", 0, 0);
        check.fault("fact abcdefghi;", 1, 5);
        check.fault("fact a?;", 1, 6);
        check.fault("fact A;", 1, 5);
        check.fault("burn 0005;", 0, 0);
        check.fault("burn 00005;", 1, 5);
        check.fault("burn 5x;", 1, 6);
        check.fault("page p true weigh 1copies 1says a;", 2, "a;");
        check.fault("fact a;page p true weigh 1copies 1says a;", 0, 0);
        check.fault("fact a1;", 1, 6);
        check.fault("fact a", 1, 6);
        check.fault("fact a  ", 1, 8);
        check.fault("fact", 1, 4);
        check.fault("burn 1;~", 1, 7);
    }

    private static void statements() {
        check.fault(";", 1, 0);
        check.fault("eat;", 1, 0);
        check.fault("night;", 1, 0);
        check.fault("heavy;", 1, 0);
        check.fault("7;", 1, 0);
        check.fault("burn 1;leans;", 1, 7);
        String[] reserved = {"fact", "leans", "page", "weigh", "copies", "says", "clash", "person", "room", "die",
            "heir", "task", "worth", "needs", "copy", "bite", "burn", "true", "lie", "recipe", "eat", "dies", "night",
            "not", "and", "or"};
        for (String word : reserved) {
            check.fault("fact " + word + ";", 1, 5);
            check.fault("fact fa;page pa true weigh 1 copies 1 says " + word + ";", 1, 43);
        }
        for (String word : new String[] {"heavy", "there", "has", "kind", "facts", "fac", "nights", "o", "orr"}) {
            check.fault("fact " + word + ";", 0, 0);
        }
    }

    private static void facts() {
        check.fault("fact a;fact b leans a;fact c leans a b;", 0, 0);
        check.fault("fact a;fact a;", 3, 12);
        check.fault(BASE + "fact pa;", 3, "pa;");
        check.fault(BASE + "fact ha;", 3, "ha;");
        check.fault(BASE + "fact ta;", 3, "ta;");
        check.fault("fact a leans;", 1, 12);
        check.fault("fact a leans a;", 2, 13);
        check.fault("fact b leans a;fact a;", 2, 13);
        check.fault("fact a;fact b leans a a;", 3, 22);
        check.fault("fact a;fact b leans a fact;", 1, "fact;");
        check.fault(BASE + "fact b leans pa;", 2, "pa;");
        check.fault("fact a b;", 1, 7);
        check.fault("fact a;fact aa;fact ab;fact ba;fact b;fact az;fact za;fact bz;fact zzzzzzzz;fact zzzzzzz;", 0, 0);
        check.fault("fact ab;fact ba;fact zzzzzzzz;fact ab;", 3, "ab;");
        check.fault("fact zzzzzzzy;fact zzzzzzzz;fact yzzzzzzz;fact b leans yzzzzzzz zzzzzzzz zzzzzzzx;", 2, "zzzzzzzx");
        check.fault("fact 1;", 1, 5);
    }

    private static void pages() {
        String facts = "fact a;fact b;";
        check.fault(facts + "page p true weigh 9 copies 9 says a b;page q lie weigh 1 copies 0 says b;", 0, 0);
        check.fault(facts + "page p recipe weigh 1 copies 0 says a;", 0, 0);
        check.fault(facts + "page a true weigh 1 copies 1 says a;", 3, 19);
        check.fault(facts + "page p weigh 1 copies 1 says a;", 1, "weigh");
        check.fault(facts + "page p leans weigh 1 copies 1 says a;", 1, "leans");
        check.fault(facts + "page p true heavy 1 copies 1 says a;", 1, "heavy");
        check.fault(facts + "page p true weigh 0 copies 1 says a;", 4, "0 copies");
        check.fault(facts + "page p true weigh 10 copies 1 says a;", 4, "10");
        check.fault(facts + "page p true weigh x copies 1 says a;", 1, "x");
        check.fault(facts + "page p true weigh 1 copies 10 says a;", 4, "10");
        check.fault(facts + "page p true weigh 1 says 1 copies a;", 1, "says");
        check.fault(facts + "page p true weigh 1 copies 1 a;", 1, "a;");
        check.fault(facts + "page p true weigh 1 copies 1 says;", 1, "says;", 4);
        check.fault(facts + "page p true weigh 1 copies 1 says c;", 2, "c;");
        check.fault(facts + "page p true weigh 1 copies 1 says p;", 2, "p;");
        check.fault(facts + "page p true weigh 1 copies 1 says a b a;", 3, "a;");
        check.fault(facts + "page p true weigh 1 copies 1 says a", 1, 49);
    }

    private static void clashes() {
        String facts = "fact a;fact b;fact c;";
        check.fault(facts + "clash a b;clash c a;clash b c;", 0, 0);
        check.fault(facts + "clash a a;", 3, 29);
        check.fault(facts + "clash a b;clash a b;", 3, 39);
        check.fault(facts + "clash a b;clash b a;", 3, 39);
        check.fault(facts + "clash d a;", 2, 27);
        check.fault(facts + "clash a d;", 2, 29);
        check.fault(facts + "clash a;", 1, 28);
        check.fault(facts + "clash a b c;", 1, 31);
        check.fault("clash a b;", 2, 6);
    }

    private static void people() {
        check.fault("person a room 0 die 0;person b room 40 die 10 heir a;", 0, 0);
        check.fault("person a room 41 die 0;", 4, 14);
        check.fault("person a room 1 die 11;", 4, 20);
        check.fault("person a die 1 room 1;", 1, 9);
        check.fault("person a room 1 heir a;", 1, 16);
        check.fault("person a room 1 die 1 heir a;", 2, 27);
        check.fault("person a room 1 die 1 heir;", 1, 26);
        check.fault("person a room 1 die 1;person b room 1 die 1 heir c;", 2, 49);
        check.fault("person a room 1 die 1;person b room 1 die 1 heir a a;", 1, 51);
        check.fault("person a room 1 die 1;person a room 1 die 1;", 3, 29);
        check.fault(BASE + "person fa room 1 die 1;", 3, "fa room");
        check.fault(BASE + "person hb room 1 die 1 heir fa;", 2, "fa;");
    }

    private static void tasks() {
        String facts = "fact a;fact b;";
        check.fault(facts + "task t worth 0 needs a;task u worth 99 needs b a;", 0, 0);
        check.fault(facts + "task t worth 100 needs a;", 4, "100");
        check.fault(facts + "task a worth 1 needs a;", 3, "a worth");
        check.fault(facts + "task t needs a;", 1, "needs");
        check.fault(facts + "task t worth 1 needs;", 1, ";");
        check.fault(facts + "task t worth 1 needs t;", 2, "t;");
        check.fault(facts + "task t worth 1 needs a b b;", 3, "b;");
    }

    private static void onceOnly() {
        check.fault("copy heavy;bite heavy;burn 1;", 0, 0);
        check.fault("copy heavy;copy heavy;", 3, 11);
        check.fault("bite heavy;bite heavy;", 3, 11);
        check.fault("burn 1;burn 1;", 3, 7);
        check.fault("burn 11;", 4, 5);
        check.fault("burn 10;", 0, 0);
        check.fault("burn heavy;", 1, 5);
        check.fault("burn 1+1;", 1, 6);
    }

    private static void formulas() {
        check.fault("copy there;bite has;", 0, 0);
        check.fault("copy has;", 1, 5);
        check.fault("bite there;", 1, 5);
        check.fault("copy ;", 1, 5);
        check.fault("copy 1", 1, 6);
        check.fault("copy 10000;", 1, 5);
        check.fault("copy 9999*9999;", 0, 0);
        check.fault("copy 1<2<3;", 1, 8);
        check.fault("copy 1<2=3;", 1, 8);
        check.fault("copy (1<2)<3 and 1=1 or 0;", 0, 0);
        check.fault("copy 1 and;", 1, 10);
        check.fault("copy 1+;", 1, 7);
        check.fault("copy -1;", 1, 5);
        check.fault("copy (1;", 1, 7);
        check.fault("copy 1);", 1, 6);
        check.fault("copy ();", 1, 6);
        check.fault("copy 1 2;", 1, 7);
        check.fault("copy not;", 1, 8);
        check.fault("fact a;copy a;", 1, 12);
        check.fault("copy 1+2*3-4<5*(6+7) and not heavy or not not there=1;", 0, 0);
    }

    private static void depth() {
        check.fault("copy ((((1))));", 0, 0);
        check.fault("copy (((((1)))));", 5, 10);
        check.fault("copy not not not not 1;", 0, 0);
        check.fault("copy not not not not not 1;", 5, 25);
        check.fault("copy not not not not not not 1;", 5, 25);
        check.fault("copy not(not(not 1));", 5, "1");
        check.fault("copy not(not(1+not 1));", 5, "1");
        check.fault("copy not(not(1+there*not heavy));", 5, "heavy");
        check.fault("copy not(not((heavy)));", 5, "heavy");
        check.fault("copy not(not((;", 1, "(;", 1);
        check.fault("copy (((((has", 1, "has");
        check.fault("copy (((((there", 5, "there");
        check.fault("copy ((((((", 5, 10);
        check.fault("copy (((((99999", 1, 10);
        check.fault("copy ((((1))))+((((1))));", 0, 0);
        String sum = "1+".repeat(496);
        check.fault("copy " + sum + "1", 1, 998);
        check.fault("copy " + sum + "1+ ", 1, 1000);
        check.fault("copy " + sum + "1+!", 1, 999);
        EatKnown x = new EatKnown();
        check.same("a sum of 497", Check.library(x, "bite " + sum + "1;"), 0);
        String deep = "copy not(0+1*not(2<1=0 or 1<1+1*(1+1)));";
        check.fault(deep, 1, deep.indexOf("=0"));
    }

    private static String many(String before, int from, int to, String behind) {
        StringBuilder s = new StringBuilder();
        for (int i = from; i < to; i++) {
            s.append(before).append((char) ('a' + i)).append(behind);
        }
        return s.toString();
    }

    private static void limits() {
        String facts = many("fact f", 0, 12, ";");
        check.fault(facts, 0, 0);
        check.fault(facts + "fact fa;", 5, facts.length());
        check.fault(facts + "fact", 5, facts.length());
        String pages = "fact a;" + many("page p", 0, 12, " lie weigh 1 copies 1 says a;");
        check.fault(pages, 0, 0);
        check.fault(pages + "page 1", 5, pages.length());
        String people = many("person p", 0, 6, " room 1 die 1;");
        check.fault(people, 0, 0);
        check.fault(people + "person pz room 1 die 1;", 5, people.length());
        String tasks = "fact a;" + many("task t", 0, 5, " worth 1 needs a;");
        check.fault(tasks, 0, 0);
        check.fault(tasks + "task tz worth 1 needs a;", 5, tasks.length());
    }

    private static void whatReadingLeaves() {
        EatKnown x = Check.of(BASE + "burn 3;copy 7;");
        check.same("eat", x.eat(0, 0), true);
        check.same("mark", x.mark(2, false), true);
        check.same("tell", x.tell(0, true), true);
        check.same("history", Check.history(x, "eat ha pa;"), 0);
        check.same("days", x.days(3), 3);
        Check.say(x, "fact zz;fact zz;");
        check.same("a fault", x.library(), 3 + 16 * 13);
        check.same("the tape is taken", x.count(12), 0);
        check.same("facts stay", x.count(0), 3);
        check.same("eaten stays", x.person(0, 4), 1);
        check.same("burn stays", x.count(10), 3);
        check.same("day stays", x.count(6), 3);
        check.same("history stays", x.count(8), 1);
        check.same("told stays", x.count(9), 1);
        check.same("undo stays", x.count(11), 2);
        check.same("mark stays", x.mark(2, true), true);
        check.same("day of the mark", x.count(6), 0);
        x.days(5);
        x.tell(0, true);
        check.same("a library", Check.library(x, BASE), 0);
        check.same("all alive, nothing eaten", x.person(0, 4), 0);
        check.same("copies as told", x.page(0, 2), 1);
        check.same("day 0", x.count(6), 0);
        check.same("no history", x.count(8), 0);
        check.same("nothing told", x.count(9), 0);
        check.same("burn 0 again", x.count(10), 0);
        check.same("nothing can be undone", x.undo(), false);
        check.same("no mark", x.mark(2, true), false);
        check.same("copy is heavy again: no copy of another library", x.copy(0), 1);
        check.same("spent", x.count(7), 1);
        check.same("an empty library", x.library(), 0);
        check.same("no facts", x.count(0), 0);
        check.same("no copies", x.count(5), 0);
        check.same("nothing spent", x.count(7), 0);
        check.same("nobody alive", x.count(4), 0);
    }

    /** The third library on an object has nothing of the first and the second. */
    private static void nothingOfAnEarlierOne() {
        String rich = "fact a;fact b leans a;fact c;page p true weigh 2 copies 9 says a b c;page q recipe weigh 3 copies 9 says b;"
            + "page r true weigh 3 copies 9 says b;person ann room 9 die 0;person ben room 8 die 9 heir ann;"
            + "task t worth 5 needs a b;task u worth 7 needs c;clash a b;clash b c;burn 9;copy 7;bite 4;";
        String poor = "fact a;fact b;page p lie weigh 1 copies 1 says a;page q true weigh 1 copies 1 says a;"
            + "person ann room 4 die 0;person ben room 5 die 0;task t worth 1 needs a;";
        EatKnown x = Check.of(rich);
        check.same("the second", Check.library(x, rich), 0);
        x.tell(0, true);
        x.tell(0, false);
        x.eat(0, 0);
        check.same("told", x.guessed(200, 0), -1);
        check.same("the third", Check.library(x, poor), 0);
        int[] counts = {2, 2, 2, 1, 2, 2, 0, 0, 0, 0, 0, 0, 0};
        for (int what = 0; what < counts.length; what++) {
            check.same("third: count " + what, x.count(what), counts[what]);
        }
        check.same("third: leans", x.fact(1, 0), 0);
        check.same("third: clashes", x.fact(0, 1) + x.fact(1, 1), 0);
        check.same("third: kind", x.page(0, 0), 1);
        check.same("third: heir", x.person(1, 3), -1);
        check.same("third: room", x.person(1, 2), 5);
        check.same("third: nothing told: {} and q", x.guessed(200, 0), 2);
        check.same("third: p is a lie", x.guessed(200, 2), 2);
        check.same("third: no clash", x.lies(0), 0);
        check.same("third: lost", x.lost(), 2);
        check.same("third: eat", x.eat(0, 0), true);
        check.same("third: he does not know a", x.person(0, 5), 0);
        check.same("third: eat the other", x.eat(0, 1), true);
        check.same("third: a bite takes one alone", x.bite(1, 0, 0), 1);
        check.same("third: no copy", x.copy(0), -1);
        check.same("the fourth", Check.library(x, poor), 0);
        check.same("fourth: a copy costs its weight", x.copy(0), 1);
        check.same("fourth: nothing burns", x.hands(0, 0), 1000000);
        check.same("the fifth", Check.library(x, "fact a;bite has-2;copy there+1;"), 0);
        check.same("the sixth", Check.library(x, rich.replace("copy 7;bite 4;", "")), 0);
        check.same("the seventh", Check.library(x, rich.replace("copy 7;bite 4;", "")), 0);
        x.eat(0, 0);
        x.eat(0, 1);
        check.same("seventh: a bite takes one alone", x.bite(1, 0, 1), 1);
        check.same("seventh: a copy costs its weight", x.copy(0), 2);
    }

    private static void history(String text, int fault) {
        EatKnown x = Check.of(BASE);
        check.same("history: " + text, Check.history(x, text), fault);
    }

    private static void histories() {
        history("eat ha pa;bite ha ha pa;copy pa;dies ha;night;", 0);
        history("", 0);
        history("eat hb pa;", 2 + 16 * 4);
        history("eat pa pa;", 2 + 16 * 4);
        history("eat ha ha;", 2 + 16 * 7);
        history("eat ha;", 1 + 16 * 6);
        history("eat ha pa pa;", 1 + 16 * 10);
        history("eat ha night;", 1 + 16 * 7);
        history("bite ha pa pa;", 2 + 16 * 8);
        history("bite hx ha pa;", 2 + 16 * 5);
        history("bite ha ha ha;", 2 + 16 * 11);
        history("bite ha pa;", 2 + 16 * 8);
        history("copy ha;", 2 + 16 * 5);
        history("copy heavy;", 2 + 16 * 5);
        history("dies pa;", 2 + 16 * 5);
        history("dies 1;", 1 + 16 * 5);
        history("night", 1 + 16 * 5);
        history("night pa;", 1 + 16 * 6);
        history("fact fz;", 1);
        history("eats ha pa;", 1);
        history("night;night;burn 1;", 1 + 16 * 12);
        String lines = "night;".repeat(24);
        history(lines, 0);
        history(lines + "night;", 5 + 16 * 144);
        history(lines + "eat hx", 5 + 16 * 144);
        history(lines + "fact", 1 + 16 * 144);
        history(lines + ";", 1 + 16 * 144);

        EatKnown x = Check.of(BASE);
        check.same("two lines", Check.history(x, "night;eat ha pa;"), 0);
        check.same("two lines are counted", x.count(8), 2);
        check.same("the tape is taken", x.count(12), 0);
        check.same("a fault", Check.history(x, "night;night;night;eat;"), 1 + 16 * 21);
        check.same("the two stay", x.count(8), 2);
        check.same("nothing is eaten by that", x.person(0, 4), 0);
        check.same("another history", Check.history(x, "night;"), 0);
        check.same("it is the history", x.count(8), 1);
        check.same("an empty one", x.history(), 0);
        check.same("is the history", x.count(8), 0);
    }
}
