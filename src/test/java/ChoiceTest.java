/** Promises 25 to 28: choices at rest, hands, prices and years. */
final class ChoiceTest {
    private static final Check check = new Check();

    public static void main(String[] args) {
        rests();
        restsOfThree();
        restsWrong();
        hands();
        handsCut();
        handsTies();
        handsFull();
        prices();
        years();
        yearsOrder();
        check.end();
    }

    private static void rest(EatKnown x, int people, int... due) {
        check.same("rests " + people + ": how many", x.rests(people, -1), due.length);
        for (int i = 0; i < due.length; i++) {
            check.same("rests " + people + ", " + i, x.rests(people, i), due[i]);
        }
        check.same("rests " + people + ": none such", x.rests(people, due.length), -1);
    }

    private static final String GAME = "fact a;fact b;page p true weigh 2 copies 1 says a;page q true weigh 5 copies 1 says a;"
        + "page r recipe weigh 1 copies 1 says b;person ann room 9 die 0;person ben room 9 die 0;person cat room 1 die 0;"
        + "task t worth 5 needs a;";

    private static void rests() {
        EatKnown x = Check.of(GAME);
        // ann: p is worth 5 - 2; then ben: p is gone, q is worth 5 - 5, which is as much as nothing
        rest(x, 3, 13 + 0, 13 + 1, 13 + 2);
        // cat has no room for p and q: nothing, or what she can't eat
        rest(x, 5, 13 + 0, 13 + 1, 13 + 2);
        rest(x, 6, 13 + 0, 13 + 1, 13 + 2);
        check.same("nothing is eaten by that", x.person(0, 4), 0);
        x.eat(0, 0);
        // ann can do t already: nothing, or p, of which there is none; so ben
        rest(x, 3, 0, 1, 2, 13, 13 + 1, 13 + 2);
        x.copy(1);
        x.dies(2);
        x.eat(1, 1);
        // both can do t: whatever costs nothing; ann may not eat p twice, nor ben q
        rest(x, 3, 0, 1, 2, 13, 13 + 1, 13 + 2);
        x.undo();
        x.undo();
        x.undo();
        check.same("cat is alive", x.person(2, 0), 1);
        EatKnown y = Check.of(GAME + "task u worth 4 needs b;");
        // r is worth 4 - 1, as much as p; a recipe stays
        rest(y, 3, 13 * 1 + 3, 13 * 3 + 1, 13 * 3 + 3);
        rest(y, 5, 13 * 1 + 3, 13 * 3 + 3);
    }

    private static void restsOfThree() {
        EatKnown x = Check.of(GAME);
        rest(x, 7, 169 + 0, 169 + 1, 169 + 2, 169 + 13, 169 + 14, 169 + 15, 169 + 26, 169 + 27, 169 + 28);
        EatKnown y = Check.of(GAME.replace("copies 1", "copies 2").replace("room 1", "room 5"));
        // two copies of p: ann and ben; then cat: q for nothing or none
        rest(y, 7, 169 + 13, 169 + 14, 169 + 15);
    }

    private static void restsWrong() {
        EatKnown x = Check.of(GAME);
        check.same("one", x.rests(1, -1), -1);
        check.same("none", x.rests(0, -1), -1);
        check.same("not told", x.rests(9, -1), -1);
        check.same("below", x.rests(-1, -1), -1);
        check.same("what -2", x.rests(3, -2), -1);
        check.same("far", x.rests(3, Integer.MAX_VALUE), -1);
        x.dies(0);
        check.same("dead", x.rests(3, -1), -1);
        check.same("alive", x.rests(6, -1), 3);
        EatKnown y = Check.of("person a room 1 die 0;person b room 1 die 0;person c room 1 die 0;person d room 1 die 0;");
        check.same("four", y.rests(15, -1), -1);
        check.same("without pages", y.rests(10, -1), 1);
        check.same("without pages: none", y.rests(11, 0), 0);
        check.same("without pages: no other", y.rests(7, 1), -1);
    }

    private static void hands(EatKnown x, int many, int kept, int... row) {
        check.same("hands " + many + ": kept", x.hands(many, 0), kept);
        for (int i = 0; i < row.length; i++) {
            check.same("hands " + many + ", " + (i + 1), x.hands(many, i + 1), row[i]);
        }
        check.same("hands " + many + ": beyond", x.hands(many, row.length + 1), -1);
    }

    private static void hands() {
        EatKnown x = Check.of("fact a;fact b;fact c;fact d;fact e;page p true weigh 1 copies 1 says a b;"
            + "page q recipe weigh 1 copies 2 says b c;page r lie weigh 1 copies 1 says d;page s true weigh 1 copies 0 says a;"
            + "page t true weigh 1 copies 1 says e;person ann room 9 die 0;burn 4;");
        // p is gone by .4, q by .16, t by .4; a .6, b 1 - .4 * .16, c .84, e .6
        hands(x, 0, 2976000);
        // one more p: a .84, b 1 - .16 * .16; then t: e .84; then p as well as q: .096 and b 1 - .064 * .16
        hands(x, 1, 3254400, 0);
        hands(x, 2, 3494400, 0, 4);
        hands(x, 3, 3605760, 0, 0, 4);
        hands(x, 4, 3707904, 0, 0, 1, 4);
        check.same("many 5", x.hands(5, 0), -1);
        check.same("many -1", x.hands(-1, 0), -1);
        check.same("what -1", x.hands(2, -1), -1);
        check.same("nothing is copied by that", x.count(5), 5);
        x.eat(0, 0);
        // ann knows a and b wholly
        hands(x, 0, 3440000);
        hands(x, 1, 3680000, 4);
        x.dies(0);
        check.same("a is lost with her, and d", x.lost(), 9);
        // b hangs on q alone now
        hands(x, 0, 840000 * 2 + 600000);
        hands(x, 1, 840000 * 3, 4);
        hands(x, 2, 936000 * 2 + 840000, 1, 4);
    }

    private static void handsCut() {
        EatKnown x = Check.of("fact a;page p true weigh 1 copies 9 says a;page q true weigh 1 copies 8 says a;burn 3;");
        // 19683 * 65610 billionths of a billionth are cut to 1
        hands(x, 0, 999999);
        EatKnown y = Check.of("fact a;fact b;fact c;page p true weigh 1 copies 7 says a;page q true weigh 1 copies 5 says b;"
            + "page r true weigh 1 copies 4 says c;burn 1;");
        // lost by 100, 10000 and 100000 billionths: 2999889900 / 1000
        hands(y, 0, 2999889);
        hands(y, 1, 2999979, 2);
        hands(y, 2, 2999988, 1, 2);
        EatKnown z = Check.of("fact a;fact b;page p true weigh 1 copies 8 says a;page q true weigh 1 copies 7 says b;burn 1;");
        // lost by 10 and 100: 1999999890, by one more p 1999999899, by one more q 1999999980: cut alike
        hands(z, 1, 1999999, 0);
    }

    private static void handsTies() {
        EatKnown x = Check.of("fact a;page r lie weigh 1 copies 1 says a;page p true weigh 1 copies 1 says a;"
            + "page q true weigh 1 copies 1 says a;");
        // nothing burns: all rows are alike, of lies, too
        hands(x, 0, 1000000);
        hands(x, 2, 1000000, 0, 0);
        EatKnown y = Check.of("fact a;page r lie weigh 1 copies 0 says a;page p true weigh 1 copies 2 says a;burn 10;");
        hands(y, 0, 0);
        hands(y, 3, 0, 1, 1, 1);
        EatKnown z = Check.of("fact a;fact b;page p true weigh 1 copies 1 says a;page q true weigh 1 copies 1 says b;burn 5;");
        hands(z, 1, 1250000, 0);
        hands(z, 2, 1500000, 0, 1);
        hands(z, 3, 1625000, 0, 0, 1);
        hands(z, 4, 1750000, 0, 0, 1, 1);
    }

    private static void handsFull() {
        EatKnown x = Check.of("fact a;fact b;page p true weigh 1 copies 8 says a;page q true weigh 1 copies 9 says b;"
            + "page r true weigh 1 copies 0 says b;page s true weigh 1 copies 6 says b;burn 5;");
        hands(x, 1, 1998016, 0);
        check.same("only s when p has nine", x.hands(2, 2), 3);
        hands(x, 4, 1998043, 0, 3, 3, 3);
        EatKnown y = Check.of("fact a;page p true weigh 1 copies 9 says a;page q true weigh 1 copies 0 says a;burn 5;");
        check.same("no page can be copied", y.hands(1, 0), -1);
        check.same("no page can be copied: row", y.hands(1, 1), -1);
        check.same("no hands", y.hands(0, 0), 998046);
    }

    private static void prices() {
        EatKnown x = Check.of("fact a;fact b leans a;page p true weigh 9 copies 0 says a;page q recipe weigh 9 copies 9 says b;"
            + "page r lie weigh 1 copies 9 says a b;person ann room 0 die 0;person ben room 40 die 0;person cat room 40 die 0;"
            + "task one worth 3 needs a;task two worth 4 needs b;task three worth 9 needs a b;");
        int[][] due = {{3, 0}, {0, 0}, {0, 0}};
        for (int p = 0; p < 3; p++) {
            check.same("price " + p, x.price(p, 0), due[p][0]);
            check.same("price " + p + ": whose", x.price(p, 1), due[p][1]);
        }
        x.eat(1, 1);
        x.eat(2, 1);
        check.same("p with q", x.price(0, 0), 16);
        check.same("p with q: ben ahead of cat", x.price(0, 1), 1);
        x.dies(1);
        check.same("then cat", x.price(0, 1), 2);
        check.same("who has eaten it: nothing", x.price(1, 0), 0);
        check.same("page 3", x.price(3, 0), -1);
        check.same("page -1", x.price(-1, 1), -1);
        check.same("what 2", x.price(0, 2), -1);
        check.same("what -1", x.price(0, -1), -1);
        x.dies(0);
        x.dies(2);
        check.same("nobody alive", x.price(0, 0), -1);
        check.same("nobody alive: whose", x.price(0, 1), -1);
    }

    private static void year(EatKnown x, int seed, int days, int eaten, int deaths, int lost) {
        check.same("years " + seed + ", " + days + ": eaten", x.years(seed, days, 0), eaten);
        check.same("years " + seed + ", " + days + ": deaths", x.years(seed, days, 1), deaths);
        check.same("years " + seed + ", " + days + ": lost", x.years(seed, days, 2), lost);
    }

    private static void years() {
        String facts = "fact a;fact b;";
        EatKnown x = Check.of(facts + "page p true weigh 3 copies 1 says a;person ann room 3 die 0;person ben room 3 die 10;");
        // one page: everybody draws it; ann eats it, ben dies
        year(x, 0, 1, 1, 1, 1);
        year(x, 9999, 60, 1, 1, 1);
        check.same("all is as ahead: alive", x.count(4), 2);
        check.same("all is as ahead: eaten", x.person(0, 4), 0);
        check.same("all is as ahead: copies", x.page(0, 2), 1);
        check.same("all is as ahead: day", x.count(6), 0);
        check.same("all is as ahead: undo", x.count(11), 0);
        x.dies(0);
        year(x, 0, 1, 1, 1, 2);
        x.undo();
        check.same("seed -1", x.years(-1, 1, 0), -1);
        check.same("seed 10000", x.years(10000, 1, 0), -1);
        check.same("days 0", x.years(0, 0, 0), -1);
        check.same("days 61", x.years(0, 61, 0), -1);
        check.same("what 3", x.years(0, 1, 3), -1);
        check.same("what -1", x.years(0, 1, -1), -1);

        // the heir has it by the death; that is no page eaten
        EatKnown y = Check.of(facts + "page p true weigh 3 copies 1 says a;person ann room 2 die 0;"
            + "person ben room 3 die 10 heir ann;");
        year(y, 5, 1, 1, 1, 2);
        EatKnown z = Check.of(facts + "page p true weigh 3 copies 1 says a;person ann room 3 die 0;"
            + "person ben room 3 die 10 heir ann;");
        z.eat(1, 0);
        year(z, 5, 1, 0, 1, 1);
        EatKnown none = Check.of("person ann room 3 die 10;");
        year(none, 5, 3, 0, 1, 0);
        // a recipe of 3 with room for one a day
        EatKnown days = Check.of("fact a;page p recipe weigh 3 copies 1 says a;page q recipe weigh 3 copies 1 says a;"
            + "page r recipe weigh 3 copies 1 says a;person ann room 3 die 0;");
        year(days, 1, 60, 3, 0, 0);
        days.eat(0, 0);
        year(days, 1, 1, 0, 0, 0);
    }

    /** The draws of seed 1, below m one after the other: of 1103527590, 2524885223 modulo 2147483648, and so on. */
    private static void yearsOrder() {
        long g = 1;
        int[] draws = new int[8];
        for (int i = 0; i < draws.length; i++) {
            g = (g * 1103515245L + 12345L) & 0x7fffffffL;
            draws[i] = (int) (g >> 16);
        }
        check.same("the first draw of seed 1", draws[0], 16838);
        check.same("the second", draws[1], 5758);
        check.same("the third", draws[2], 10113);
        check.same("the fourth", draws[3], 17515);
        // day 1: ann draws 16838 % 3 = 2, ben 5758 % 3 = 1; then 10113 % 10 = 3 and 17515 % 10 = 5 against die
        String pages = "fact a;fact b;fact c;page p true weigh 1 copies 1 says a;page q true weigh 1 copies 1 says b;"
            + "page r true weigh 1 copies 1 says c;";
        EatKnown x = Check.of(pages + "person ann room 1 die 4;person ben room 1 die 5;");
        year(x, 1, 1, 2, 1, 1);
        EatKnown y = Check.of(pages + "person ann room 1 die 3;person ben room 1 die 6;");
        year(y, 1, 1, 2, 1, 1);
        EatKnown z = Check.of(pages + "person ann room 1 die 3;person ben room 1 die 5;");
        year(z, 1, 1, 2, 0, 0);
        // without pages the first two draws are those of the deaths, 8 and 8
        EatKnown bare = Check.of("person ann room 1 die 5;person ben room 1 die 6;");
        year(bare, 1, 1, 0, 0, 0);
        EatKnown frail = Check.of("person ann room 1 die 8;person ben room 1 die 9;");
        year(frail, 1, 1, 0, 1, 0);
        EatKnown w = Check.of(pages + "person ann room 1 die 4;person ben room 1 die 6 heir ann;");
        year(w, 1, 1, 2, 2, 2);
    }
}
