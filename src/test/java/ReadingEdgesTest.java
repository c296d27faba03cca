/** The edges that the Terms and promises 1 to 4 name; each method is for one sentence of the document. */
final class ReadingEdgesTest {
    private static final Check check = new Check();

    private static final String[] RESERVED = {"fact", "leans", "page", "weigh", "copies", "says", "clash", "person", "room",
        "die", "heir", "task", "worth", "needs", "copy", "bite", "burn", "true", "lie", "recipe", "eat", "dies", "night",
        "not", "and", "or"};

    public static void main(String[] args) {
        theTapeHasAtMostAThousandSigns();
        whatIsBeyondAThousandIsLeftOut();
        signsAre10And32To126();
        theHighestByteFirst();
        whatReadsTheTapeTakesIt();
        tokensAreAsLongAsCanBe();
        wordsHave8LettersAtMost();
        numbersHave1To4Digits();
        blanksAreWhereOneLikes();
        allElseIsNone();
        twelveFacts();
        twelvePages();
        sixPeople();
        fiveTasks();
        anyNumberOfClashes();
        leansIsNothingOrFactsToldEachOnce();
        saysIsAtLeastOneEachOnce();
        needsIsAtLeastOneEachOnce();
        weigh1To9();
        copies0To9();
        room0To40();
        die0To10();
        worth0To99();
        burn0To10();
        clashIsOfTwoNotTheSameEachPairOnce();
        heirIsNothingOrAPersonTold();
        copyBiteBurnOnceEach();
        aNameIsAnotherWord();
        noTwoNamesAreAlike();
        twentyFourLines();
        namesOfAHistory();
        noPartLiesWithinFive();
        oneComparisonInATest();
        intsWrap();
        ofNotAndOrLessSameComes1Or0();
        whatIsNot0IsSo();
        fromTheLeft();
        withoutCopyHeavyWithoutBite0();
        theEndIsATokenAtTheTextsLength();
        theFirstWrongTokenTheLeastKind();
        withoutAFaultAllIsNew();
        nothingOfWhatWasReadBefore();
        withAFaultAllStays();
        aHistoryIsTheHistory();
        atFirstNothing();
        check.end();
    }

    /** Feeds so many blanks, each by itself or 24 at once. */
    private static void blanks(EatKnown x, int many) {
        for (int i = 0; i < many / 24; i++) {
            x.feed(0x2020202020202020L, 0x2020202020202020L, 0x2020202020202020L);
        }
        for (int i = 0; i < many % 24; i++) {
            x.feed(0x20, 0, 0);
        }
    }

    private static void theTapeHasAtMostAThousandSigns() {
        EatKnown x = new EatKnown();
        blanks(x, 999);
        check.same("999 signs", x.count(12), 999);
        check.same("999 and none", x.feed(0, 0, 0), 999);
        check.same("999 and one", x.feed(0, 0, 0x21), 1000);
        check.same("1,000 and none", x.feed(0, 0, 0), 1000);
        check.same("1,000 and one", x.feed(0x21, 0, 0), 1000);
        check.same("1,000 and 24", x.feed(0x2121212121212121L, 0x2121212121212121L, 0x2121212121212121L), 1000);
        check.same("the last sign that came on it is none", x.library(), 1 + 16 * 999);
        blanks(x, 976);
        check.same("976 and 24", x.feed(0x2020202020202020L, 0x2020202020202020L, 0x2020202020202020L), 1000);
        x.library();
        blanks(x, 977);
        check.same("977 and 24", x.feed(0x2020202020202020L, 0x2020202020202020L, 0x2020202020202020L), 1000);
    }

    private static void whatIsBeyondAThousandIsLeftOut() {
        EatKnown x = new EatKnown();
        blanks(x, 993);
        check.same("its end is the 1,000th sign", Check.say(x, "fact a;"), 1000);
        check.same("so it is read", x.library(), 0);
        check.same("a fact", x.count(0), 1);
        blanks(x, 994);
        check.same("its end is the 1,001st sign", Check.say(x, "fact b;"), 1000);
        check.same("so it is left out", x.library(), 1 + 16 * 1000);
        blanks(x, 1000);
        Check.say(x, "!");
        check.same("a wrong sign beyond is no fault", x.library(), 0);
        blanks(x, 999);
        Check.say(x, " !");
        check.same("nor right behind the 1,000th in one feed", x.library(), 0);
        blanks(x, 988);
        check.same("a word is cut", Check.say(x, "fact abcdefghij"), 1000);
        check.same("to seven letters: the end comes too soon", x.library(), 1 + 16 * 1000);
        blanks(x, 986);
        check.same("a word of nine", Check.say(x, "fact abcdefghi"), 1000);
        check.same("is none at its first sign", x.library(), 1 + 16 * 991);
    }

    private static void signsAre10And32To126() {
        EatKnown x = new EatKnown();
        for (int sign = 0; sign < 256; sign++) {
            int due = sign == 10 || sign >= 32 && sign <= 126 ? 1 : 0;
            for (int shift = 0; shift < 64; shift += 8) {
                long bytes = (long) sign << shift;
                check.same("sign " + sign + " in a", x.feed(bytes, 0, 0), due);
                check.same("sign " + sign + " in b", x.feed(0, bytes, 0), 2 * due);
                check.same("sign " + sign + " in c", x.feed(0, 0, bytes), 3 * due);
                x.library();
            }
        }
        check.same("24 signs", x.feed(0x200a7e2021402a2bL, 0x3031323334353637L, 0x41616263647a7e0aL), 24);
        check.same("none of 24", x.feed(0x1f7f80ff0009000bL, -1L, Long.MIN_VALUE), 24);
    }

    private static void theHighestByteFirst() {
        EatKnown x = new EatKnown();
        x.feed(0x6600000000000061L, 0x6300000000000074L, 0x200000000000613bL);
        check.same("f a, c t, blank a ;", x.library(), 0);
        check.same("a fact", x.count(0), 1);
        x.feed(0x0066616374200000L, 0x0000006200000000L, 0x3b00000000000000L);
        check.same("what is left out parts nothing", x.library(), 0);
        check.same("a fact, too", x.count(0), 1);
    }

    private static void whatReadsTheTapeTakesIt() {
        EatKnown x = new EatKnown();
        check.same("a library", Check.library(x, "fact a;page p true weigh 1 copies 1 says a;"), 0);
        check.same("empty", x.count(12), 0);
        check.same("a library with a fault", Check.library(x, "fact a;!!!!"), 1 + 16 * 7);
        check.same("empty, too", x.count(12), 0);
        check.same("a history", Check.history(x, "copy p;"), 0);
        check.same("empty then", x.count(12), 0);
        check.same("a history with a fault", Check.history(x, "copy p; copy q;"), 2 + 16 * 13);
        check.same("empty then, too", x.count(12), 0);
        check.same("the next text begins at 0", Check.history(x, "!"), 1);
        check.same("an empty tape is an empty history", x.history(), 0);
        check.same("what an empty tape is fed", x.feed(0x61, 0, 0), 1);
    }

    private static void tokensAreAsLongAsCanBe() {
        check.fault("facta;", 1, 0);
        check.fault("fact a;factb;", 1, 7);
        check.fault("fact facta;fact afact;fact nots;fact noto;", 0, 0);
        check.fault("copy notheavy;", 1, 5);
        check.fault("copy heavyand 1;", 1, 5);
        check.fault("copy 1and 1or 0;", 0, 0);
        check.fault("copy 12 34;", 1, 8);
        check.fault("burn 1 0;", 1, 7);
        check.fault("burn 10;", 0, 0);
    }

    private static void wordsHave8LettersAtMost() {
        check.fault("fact a;fact bcdefghi;", 0, 0);
        check.fault("fact a;fact bcdefghij;", 1, 12);
        check.fault("fact abcdefgh;fact abcdefg;fact abcdefgi;", 0, 0);
        check.fault("fact a;fact b leans abcdefghi;", 1, 20);
        check.fault("abcdefghijklmnopqrstuvwxyz", 1, 0);
        check.fault("fact " + "a".repeat(995), 1, 5);
        check.fault("fact zzzzzzzz;page p true weigh 1 copies 1 says zzzzzzzz;task t worth 1 needs zzzzzzzz;", 0, 0);
        check.fault("fact zzzzzzzz;page p true weigh 1 copies 1 says zzzzzzz;", 2, "zzzzzzz;");
    }

    private static void numbersHave1To4Digits() {
        check.fault("copy 0;", 0, 0);
        check.fault("copy 9999;", 0, 0);
        check.fault("copy 0000;", 0, 0);
        check.fault("copy 10000;", 1, 5);
        check.fault("copy 00000;", 1, 5);
        check.fault("copy 1+12345;", 1, 7);
        check.fault("copy " + "1".repeat(995), 1, 5);
        check.fault("burn 0010;", 0, 0);
        check.fault("burn 9999;", 4, 5);
        check.fault("burn 00010;", 1, 5);
        check.fault("fact a;page p true weigh 0009copies 0009says a;", 0, 0);
        check.fault("fact a;page p true weigh 9copies 9says a;", 0, 0);
        check.fault("fact a;page p true weigh9copies9says a;", 0, 0);
        check.fault("copy 9999and 1;", 0, 0);
        check.fault("copy 99999and 1;", 1, 5);
        check.same("0010", Check.of("burn 0010;").count(10), 10);
    }

    private static void blanksAreWhereOneLikes() {
        check.fault("", 0, 0);
        check.fault(" ", 0, 0);
        check.fault("\n", 0, 0);
        check.fault("\n \n  fact\n\na \n;\n", 0, 0);
        check.fault("fact a ; fact b;fact\nc leans\na\n b\n ;", 0, 0);
        check.fault("copy(1+2)*3<4and(1)or not(0)\n;\n", 0, 0);
        check.fault("fa ct a;", 1, 0);
        EatKnown x = Check.of("fact a;page p true weigh 1 copies 1 says a;person h room 1 die 0;");
        check.same("in a history, too", Check.history(x, "\n eat\nh \n p ;\n\nnight\n;\n"), 0);
        check.same("two lines", x.count(8), 2);
    }

    private static void allElseIsNone() {
        for (char sign = 33; sign <= 126; sign++) {
            boolean isLetter = sign >= 'a' && sign <= 'z';
            boolean isDigit = sign >= '0' && sign <= '9';
            String text = "copy 1" + sign;
            if ("<=+-*".indexOf(sign) >= 0) {
                check.fault(text + "1;", 0, 0);
            } else if (isDigit) {
                check.fault(text + ";", 0, 0);
            } else if (sign == ';') {
                check.fault(text, 0, 0);
            } else {
                check.fault(text + "1;", 1, 6);
            }
            if (!isLetter && sign != ';') {
                check.fault("fact a" + sign + ";", 1, 6);
            }
        }
    }

    private static void fault0(String text) {
        check.fault(text, 0, 0);
    }

    /** So many statements, each with a name of its own. */
    private static String many(String before, int many, String behind) {
        StringBuilder s = new StringBuilder();
        for (int i = 0; i < many; i++) {
            s.append(before).append((char) ('a' + i)).append(behind);
        }
        return s.toString();
    }

    private static void twelveFacts() {
        String facts = many("fact f", 12, ";");
        check.same("12", Check.of(facts).count(0), 12);
        check.same("11", Check.of(many("fact f", 11, ";")).count(0), 11);
        check.fault(facts + " fact fz;", 5, facts.length() + 1);
        check.fault(facts + "fact fa;", 5, facts.length());
        check.fault(facts + "fact", 5, facts.length());
        check.fault(facts + "facts", 1, facts.length());
        check.fault(facts + "person fact", 1, facts.length() + 7);
    }

    private static void twelvePages() {
        String pages = "fact a;" + many("page p", 12, " true weigh 1 copies 1 says a;");
        check.same("12", Check.of(pages).count(1), 12);
        check.same("11", Check.of("fact a;" + many("page p", 11, " lie weigh 1 copies 1 says a;")).count(1), 11);
        check.fault(pages + "page pz true weigh 1 copies 1 says a;", 5, pages.length());
        check.fault(pages + "page !", 5, pages.length());
    }

    private static void sixPeople() {
        String people = many("person h", 6, " room 1 die 1;");
        check.same("6", Check.of(people).count(2), 6);
        check.same("5", Check.of(many("person h", 5, " room 1 die 1;")).count(2), 5);
        check.fault(people + "person hz room 1 die 1;", 5, people.length());
        check.fault(people + "person 1", 5, people.length());
    }

    private static void fiveTasks() {
        String tasks = "fact a;" + many("task t", 5, " worth 1 needs a;");
        check.same("5", Check.of(tasks).count(3), 5);
        check.same("4", Check.of("fact a;" + many("task t", 4, " worth 1 needs a;")).count(3), 4);
        check.fault(tasks + "task tz worth 1 needs a;", 5, tasks.length());
        check.fault(tasks + "task", 5, tasks.length());
    }

    private static void anyNumberOfClashes() {
        StringBuilder s = new StringBuilder(many("fact ", 12, ";"));
        for (char i = 'a'; i < 'm'; i++) {
            for (char j = 'a'; j < i; j++) {
                s.append("clash ").append(i).append(' ').append(j).append(';');
            }
        }
        EatKnown x = Check.of(s.toString());
        for (int i = 0; i < 12; i++) {
            check.same("all others clash with " + i, x.fact(i, 1), 4095 & ~(1 << i));
        }
        check.fault(s + "clash l a;", 3, s.length() + 8);
        check.fault(s + "clash a l;", 3, s.length() + 8);
        check.fault(s + "clash l l;", 3, s.length() + 8);
    }

    private static void leansIsNothingOrFactsToldEachOnce() {
        String eleven = "a b c d e f g h i j k";
        EatKnown x = Check.of(many("fact ", 11, ";") + "fact l leans " + eleven + ";");
        check.same("on eleven", x.fact(11, 0), 2047);
        check.same("on none", x.fact(10, 0), 0);
        fault0("fact a;fact b leans a;");
        check.fault("fact a;fact b leans;", 1, 19);
        check.fault("fact a;fact b leans", 1, 19);
        check.fault("fact a;fact b leans b;", 2, 20);
        check.fault("fact a;fact b leans a b;", 2, 22);
        check.fault("fact a;fact b leans c;fact c;", 2, 20);
        check.fault("fact a;fact b leans a a;", 3, 22);
        check.fault(many("fact ", 11, ";") + "fact l leans " + eleven + " k;", 3, 11 * 7 + 13 + 22);
        check.fault("fact a;fact b leans a leans a;", 1, 22);
        check.fault("fact a;fact b leans 1;", 1, 20);
        check.fault("person a room 1 die 1;fact b leans a;", 2, 35);
    }

    private static void saysIsAtLeastOneEachOnce() {
        String facts = many("fact ", 12, ";");
        String page = "page p true weigh 1 copies 1 says";
        EatKnown x = Check.of(facts + page + " l k j i h g f e d c b a;page q lie weigh 1 copies 1 says l;");
        check.same("twelve", x.page(0, 3), 4095);
        check.same("one", x.page(1, 3), 2048);
        check.fault(facts + page + ";", 1, facts.length() + page.length());
        check.fault(facts + page, 1, facts.length() + page.length());
        check.fault(facts + page + " a a;", 3, facts.length() + page.length() + 3);
        check.fault(facts + page + " l k j i h g f e d c b a l;", 3, facts.length() + page.length() + 25);
        check.fault(facts + page + " m;", 2, facts.length() + page.length() + 1);
        check.fault(facts + page + " p;", 2, facts.length() + page.length() + 1);
        check.fault("page p true weigh 1 copies 1 says a;fact a;", 2, 34);
    }

    private static void needsIsAtLeastOneEachOnce() {
        String facts = many("fact ", 12, ";");
        String task = "task t worth 1 needs";
        EatKnown x = Check.of(facts + task + " l k j i h g f e d c b a;task u worth 1 needs l;");
        check.same("twelve", x.task(0, 1), 4095);
        check.same("one", x.task(1, 1), 2048);
        check.fault(facts + task + ";", 1, facts.length() + task.length());
        check.fault(facts + task, 1, facts.length() + task.length());
        check.fault(facts + task + " a a;", 3, facts.length() + task.length() + 3);
        check.fault(facts + task + " l k j i h g f e d c b a l;", 3, facts.length() + task.length() + 25);
        check.fault(facts + task + " m;", 2, facts.length() + task.length() + 1);
        check.fault(facts + task + " t;", 2, facts.length() + task.length() + 1);
    }

    private static String page(String weigh, String copies) {
        return "fact a;page p true weigh " + weigh + " copies " + copies + " says a;";
    }

    /** Behind a word a number is due: what else can stand there is a fault. */
    private static void numberDue(String before, String behind) {
        for (String other : new String[] {"heavy", "fact", ";", "(1)", "-1", "+1", "!", "10000"}) {
            check.fault(before + other + behind, 1, before.length());
        }
        check.fault(before, 1, before.length());
        check.fault(before + "9999" + behind, 4, before.length());
    }

    private static void weigh1To9() {
        check.fault(page("0", "1"), 4, 25);
        check.same("1", Check.of(page("1", "1")).page(0, 1), 1);
        check.same("9", Check.of(page("9", "1")).page(0, 1), 9);
        check.fault(page("10", "1"), 4, 25);
        numberDue("fact a;page p true weigh ", " copies 1 says a;");
    }

    private static void copies0To9() {
        check.same("0", Check.of(page("1", "0")).page(0, 2), 0);
        check.same("9", Check.of(page("1", "9")).page(0, 2), 9);
        check.fault(page("1", "10"), 4, 34);
        numberDue("fact a;page p true weigh 1 copies ", " says a;");
    }

    private static void room0To40() {
        check.same("0", Check.of("person h room 0 die 0;").person(0, 1), 0);
        check.same("40", Check.of("person h room 40 die 0;").person(0, 1), 40);
        check.same("40 are left", Check.of("person h room 40 die 0;").person(0, 2), 40);
        check.fault("person h room 41 die 0;", 4, 14);
        numberDue("person h room ", " die 0;");
    }

    private static void die0To10() {
        EatKnown x = Check.of("person h room 0 die 0;");
        EatKnown y = Check.of("person h room 0 die 10;");
        for (int seed = 0; seed < 20; seed++) {
            check.same("die 0: never", x.years(seed, 1, 1), 0);
            check.same("die 10: at once", y.years(seed, 1, 1), 1);
        }
        check.fault("person h room 0 die 11;", 4, 20);
        numberDue("person h room 0 die ", ";");
    }

    private static void worth0To99() {
        check.same("0", Check.of("fact a;task t worth 0 needs a;").task(0, 0), 0);
        check.same("99", Check.of("fact a;task t worth 99 needs a;").task(0, 0), 99);
        check.fault("fact a;task t worth 100 needs a;", 4, 20);
        numberDue("fact a;task t worth ", " needs a;");
    }

    private static void burn0To10() {
        check.same("without", Check.of("fact a;").count(10), 0);
        check.same("0", Check.of("burn 0;").count(10), 0);
        check.same("10", Check.of("burn 10;").count(10), 10);
        check.fault("burn 11;", 4, 5);
        numberDue("burn ", ";");
    }

    private static void clashIsOfTwoNotTheSameEachPairOnce() {
        String facts = "fact a;fact b;fact c;";
        EatKnown x = Check.of(facts + "clash a b;clash c b;");
        check.same("a", x.fact(0, 1), 2);
        check.same("b", x.fact(1, 1), 5);
        check.same("c", x.fact(2, 1), 2);
        check.fault(facts + "clash a a;", 3, 29);
        check.fault(facts + "clash a b;clash a b;", 3, 39);
        check.fault(facts + "clash a b;clash b a;", 3, 39);
        check.fault(facts + "clash a b;clash b c;clash c a;clash c b;", 3, 59);
        check.fault(facts + "clash;", 1, 26);
        check.fault(facts + "clash a;", 1, 28);
        check.fault(facts + "clash a b c;", 1, 31);
        check.fault(facts + "clash d d;", 2, 27);
        check.fault(facts + "clash a d;", 2, 29);
        check.fault("clash a b;fact a;fact b;", 2, 6);
        check.fault(facts + "person h room 1 die 1;clash a h;", 2, 51);
    }

    private static void heirIsNothingOrAPersonTold() {
        String ann = "person ann room 1 die 1;";
        EatKnown x = Check.of(ann + "person ben room 1 die 1 heir ann;person cat room 1 die 1 heir ben;");
        check.same("none", x.person(0, 3), -1);
        check.same("ann", x.person(1, 3), 0);
        check.same("ben", x.person(2, 3), 1);
        check.fault("person ann room 1 die 1 heir;", 1, 28);
        check.fault("person ann room 1 die 1 heir", 1, 28);
        check.fault("person ann room 1 die 1 heir ann;", 2, 29);
        check.fault("person ann room 1 die 1 heir ben;" + "person ben room 1 die 1;", 2, 29);
        check.fault(ann + "person ben room 1 die 1 heir ann ann;", 1, 57);
        check.fault("fact a;person ann room 1 die 1 heir a;", 2, 36);
        check.fault(ann + "person ben room 1 die 1 heir room;", 1, 53);
    }

    private static void copyBiteBurnOnceEach() {
        fault0("copy 1;bite 1;burn 1;");
        check.fault("copy 1;bite 1;burn 1;copy 1;", 3, 21);
        check.fault("copy 1;bite 1;burn 1;bite 1;", 3, 21);
        check.fault("copy 1;bite 1;burn 1;burn 1;", 3, 21);
        check.fault("burn 0;burn", 3, 7);
        check.fault("copy heavy;copy !", 3, 11);
        check.fault("bite 0;bite;", 3, 7);
        EatKnown x = new EatKnown();
        check.same("a second time", Check.library(x, "copy 1;bite 1;burn 1;burn 1;"), 3 + 16 * 21);
        check.same("in another library once more", Check.library(x, "copy 1;bite 1;burn 1;"), 0);
        check.same("and once more", Check.library(x, "copy 1;bite 1;burn 1;"), 0);
    }

    private static void aNameIsAnotherWord() {
        for (String word : RESERVED) {
            check.fault("fact " + word + ";", 1, 5);
            check.fault("fact a;page " + word + " true weigh 1 copies 1 says a;", 1, 12);
            check.fault("person " + word + " room 1 die 1;", 1, 7);
            check.fault("fact a;task " + word + " worth 1 needs a;", 1, 12);
            check.fault("fact a;clash " + word + " a;", 1, 13);
            check.fault("fact a;clash a " + word + ";", 1, 15);
            check.fault("fact a;task t worth 1 needs a " + word + ";", 1, 30);
            check.fault("person a room 1 die 1;person b room 1 die 1 heir " + word + ";", 1, 49);
            fault0("fact " + word + "x;");
        }
        for (String other : new String[] {"1", ";", "(", "<", "!", "A"}) {
            check.fault("fact " + other + ";", 1, 5);
            check.fault("person " + other + " room 1 die 1;", 1, 7);
        }
        EatKnown x = Check.of("fact heavy;fact there;fact has;page kind true weigh 2 copies 3 says heavy there has;"
            + "person facts room 9 die 1;task weight worth 1 needs heavy;copy heavy+there;bite has;");
        check.same("words of E are names, too", x.page(0, 3), 7);
        check.same("and heavy is still what the page weighs", x.copy(0), 5);
        check.same("in a history, too", Check.history(x, "eat facts kind;copy kind;"), 0);
    }

    private static void noTwoNamesAreAlike() {
        String[] told = {"fact nn;", "page nn true weigh 1 copies 1 says a;", "person nn room 1 die 1;",
            "task nn worth 1 needs a;"};
        for (String first : told) {
            for (String second : told) {
                String text = "fact a;" + first + second;
                check.fault(text, 3, text.lastIndexOf("nn"));
                fault0("fact a;" + first + second.replace("nn", "n"));
                fault0("fact a;" + first + second.replace("nn", "nm"));
                fault0("fact a;" + first + second.replace("nn", "nnn"));
            }
        }
        fault0("fact a;fact aa;fact ab;fact ba;fact b;fact az;fact za;fact aaa;fact aba;fact baa;fact zz;fact z;");
        fault0("fact aaaaaaaa;fact aaaaaaab;fact baaaaaaa;fact zzzzzzzz;fact zzzzzzzy;fact yzzzzzzz;fact aaaaaaa;");
        String eleven = many("fact f", 11, ";");
        check.fault(eleven + "fact fk;", 3, eleven.length() + 5);
        check.fault(eleven + "fact fa;", 3, eleven.length() + 5);
    }

    private static final String LIBRARY = "fact fa;page pa true weigh 1 copies 1 says fa;person ha room 1 die 1;"
        + "person hb room 1 die 1;task ta worth 1 needs fa;";

    private static void history(String text, int kind, int place) {
        EatKnown x = Check.of(LIBRARY);
        check.same("history: " + text, Check.history(x, text), kind + 16 * place);
    }

    private static void twentyFourLines() {
        EatKnown x = Check.of(LIBRARY);
        check.same("24", Check.history(x, "night;".repeat(24)), 0);
        check.same("24 lines", x.count(8), 24);
        check.same("23", Check.history(x, "night;".repeat(23)), 0);
        check.same("23 lines", x.count(8), 23);
        for (String line : new String[] {"night;", "eat ha pa;", "bite ha hb pa;", "copy pa;", "dies ha;", "eat", "bite 1",
            "copy fa", "dies zz", "night 1"}) {
            history("night;".repeat(24) + line, 5, 144);
        }
        for (String none : new String[] {"fact", ";", "heavy", "1", "!", "eats"}) {
            history("night;".repeat(24) + none, 1, 144);
        }
        history("night;".repeat(24) + "  ", 0, 0);
        history("eat ha pa;".repeat(24) + "\nnight;", 5, 241);
        String deed = "copy pa;";
        history(deed.repeat(24), 0, 0);
        history(deed.repeat(25), 5, deed.length() * 24);
    }

    private static void namesOfAHistory() {
        history("eat ha pa;bite hb ha pa;copy pa;dies hb;night;", 0, 0);
        history("", 0, 0);
        for (String none : new String[] {"zz", "fa", "ta", "pa"}) {
            history("eat " + none + " pa;", 2, 4);
            history("bite " + none + " ha pa;", 2, 5);
            history("bite ha " + none + " pa;", 2, 8);
            history("dies " + none + ";", 2, 5);
        }
        for (String none : new String[] {"zz", "fa", "ta", "ha"}) {
            history("eat ha " + none + ";", 2, 7);
            history("bite ha hb " + none + ";", 2, 11);
            history("copy " + none + ";", 2, 5);
        }
        for (String word : RESERVED) {
            history("eat " + word + " pa;", 1, 4);
            history("copy " + word + ";", 1, 5);
            boolean begins = "eat.bite.copy.dies.night.".contains(word + ".");
            history(word + "!", 1, begins ? word.length() : 0);
        }
        history("copy 1;", 1, 5);
        history("eat ha pa pa;", 1, 10);
        history("night ha;", 1, 6);
        history("dies ha hb;", 1, 8);
        history("eat ha pa", 1, 9);
        history("night", 1, 5);
        EatKnown x = new EatKnown();
        check.same("without a library nobody is told", Check.history(x, "dies ha;"), 2 + 16 * 5);
        check.same("nor a page", Check.history(x, "copy pa;"), 2 + 16 * 5);
        check.same("a night can be", Check.history(x, "night;"), 0);
    }

    private static void noPartLiesWithinFive() {
        for (String word : new String[] {"copy ", "bite "}) {
            fault0(word + "((((1))));");
            fault0(word + "not not not not 1;");
            fault0(word + "not (not (1));");
            fault0(word + "((((1))))+((((1))))*((((1))))<not not not not 1 and ((((1)))) or not (not (1));");
            check.fault(word + "(((((1)))));", 5, 10);
            check.fault(word + "not not not not not 1;", 5, 25);
            check.fault(word + "not(not(not 1));", 5, 17);
            check.fault(word + "((((1+(1)))));", 5, 12);
            check.fault(word + "((((1+not 1))));", 5, 15);
            check.fault(word + "(((((heavy", 5, 10);
            check.fault(word + "(((((not", 5, 10);
            check.fault(word + "((((((", 5, 10);
            check.fault(word + "(((((;", 1, 10);
            check.fault(word + "(((((and", 1, 10);
            check.fault(word + "(((((fact", 1, 10);
            check.fault(word + "(((((", 1, 10);
        }
        check.fault("copy (((((there", 5, 10);
        check.fault("bite (((((there", 1, 10);
        check.fault("bite (((((has", 5, 10);
        check.fault("copy (((((has", 1, 10);
    }

    private static void oneComparisonInATest() {
        fault0("copy 1<2 and 1=1 or 2<1;");
        check.fault("copy 1<2<3;", 1, 8);
        check.fault("copy 1=2=3;", 1, 8);
        check.fault("copy 1<2=3;", 1, 8);
        check.fault("copy 1=2<3;", 1, 8);
        fault0("copy (1<2)<3;");
        fault0("copy 1<(2<3);");
        check.fault("copy 1 not 1;", 1, 7);
        check.fault("copy and 1;", 1, 5);
        check.fault("copy *1;", 1, 5);
        check.fault("copy 1+-1;", 1, 7);
        check.fault("copy;", 1, 4);
        check.fault("copy", 1, 4);
    }

    private static void cost(String formula, int due) {
        EatKnown x = Check.of("fact a;page p true weigh 9 copies 8 says a;copy " + formula + ";");
        check.same("copy " + formula, x.copy(0), due);
    }

    private static void intsWrap() {
        cost("2048*1024*1024", 0);
        cost("2048*1024*1024-1", 99);
        cost("2047*1024*1024", 99);
        cost("4096*1024*1024", 0);
        cost("4096*1024*1024+1", 1);
        cost("4096*1024*1024-1", 0);
        cost("0-2048*1024*1024", 0);
        cost("0-2048*1024*1024-1", 99);
        cost("0-2048*1024*1024<0", 1);
        cost("2048*1024*1024-1+1<0", 1);
        cost("2048*1024*1024=0-2048*1024*1024", 1);
        cost("4096*1024*1024=0", 1);
        cost("not (4096*1024*1024)", 1);
        cost("not (2048*1024*1024)", 0);
        cost("heavy*there", 72);
    }

    private static void ofNotAndOrLessSameComes1Or0() {
        cost("not 0", 1);
        cost("not 1", 0);
        cost("not 7", 0);
        cost("(not 0)+(not 0)", 2);
        cost("7 and 7", 1);
        cost("0 and 7", 0);
        cost("7 and 0", 0);
        cost("0 and 0", 0);
        cost("7 or 7", 1);
        cost("0 or 7", 1);
        cost("7 or 0", 1);
        cost("0 or 0", 0);
        cost("(7 and 7)*5+(0 or 3)*2", 7);
        cost("6<7", 1);
        cost("7<7", 0);
        cost("8<7", 0);
        cost("6=7", 0);
        cost("7=7", 1);
        cost("8=7", 0);
        cost("(6<7)+(7=7)", 2);
        cost("5+(7<7)+(6=7)+(0 and 1)+(0 or 0)+(not 9)", 5);
    }

    private static void whatIsNot0IsSo() {
        cost("(0-1) and 1", 1);
        cost("1 and 0-1", 1);
        cost("0-1 or 0", 1);
        cost("0 or 0-1", 1);
        cost("not (0-1)", 0);
        cost("2 and 3", 1);
        cost("2048*1024*1024 and 1", 1);
        cost("4096*1024*1024 or 0", 0);
    }

    private static void fromTheLeft() {
        cost("9-3-2", 4);
        cost("9-3+2", 8);
        cost("9+3-2", 10);
        cost("9-2*3", 3);
        cost("2*3-1", 5);
        cost("2*3*4", 24);
        cost("(9-2)*3", 21);
        cost("9-(3-2)", 8);
        cost("1 or 1 and 0", 0);
        cost("0 and 0 or 1", 1);
        cost("1 or (1 and 0)", 1);
        cost("0 and (0 or 1)", 0);
        cost("not 0+1", 2);
        cost("not (0+1)", 0);
        cost("not 0*5", 5);
        cost("not 3=0", 1);
        cost("not 3<1", 1);
        cost("1+1=2", 1);
        cost("1+(1=2)", 1);
        cost("3<2*2", 1);
        cost("1<2 and 2<1 or 3=3", 1);
        cost("5 and 3<2", 0);
    }

    private static void withoutCopyHeavyWithoutBite0() {
        String text = "fact a;page p true weigh 9 copies 8 says a;page q true weigh 1 copies 9 says a;"
            + "person ann room 10 die 0;person ben room 10 die 0;";
        EatKnown x = Check.of(text);
        check.same("a copy costs what the page weighs", x.copy(0), 9);
        x.eat(0, 0);
        x.eat(0, 1);
        check.same("a bite takes no others", x.bite(1, 0, 0), 1);
        check.same("ann still has q", x.person(0, 4), 2);
        EatKnown y = Check.of(text + "copy 0;bite 1;");
        check.same("copy 0", y.copy(0), 0);
        y.eat(0, 0);
        y.eat(0, 1);
        check.same("bite 1", y.bite(1, 0, 0), 2);
    }

    private static void theEndIsATokenAtTheTextsLength() {
        check.fault("fact", 1, 4);
        check.fault("fact ", 1, 5);
        check.fault("fact a", 1, 6);
        check.fault("fact a\n\n ", 1, 9);
        check.fault("fact a;fact b leans a", 1, 21);
        check.fault("page", 1, 4);
        check.fault("page p", 1, 6);
        check.fault("page p lie ", 1, 11);
        check.fault("page p lie weigh", 1, 16);
        check.fault("page p lie weigh 1", 1, 18);
        check.fault("page p lie weigh 1 copies", 1, 25);
        check.fault("page p lie weigh 1 copies 1", 1, 27);
        check.fault("page p lie weigh 1 copies 1 says", 1, 32);
        check.fault("clash", 1, 5);
        check.fault("fact a;clash a", 1, 14);
        check.fault("person", 1, 6);
        check.fault("person h", 1, 8);
        check.fault("person h room", 1, 13);
        check.fault("person h room 1", 1, 15);
        check.fault("person h room 1 die", 1, 19);
        check.fault("person h room 1 die 1", 1, 21);
        check.fault("task", 1, 4);
        check.fault("task t", 1, 6);
        check.fault("task t worth", 1, 12);
        check.fault("task t worth 1", 1, 14);
        check.fault("task t worth 1 needs", 1, 20);
        check.fault("copy 1", 1, 6);
        check.fault("bite (1", 1, 7);
        check.fault("bite not", 1, 8);
        check.fault("burn", 1, 4);
        check.fault("burn 1", 1, 6);
        check.fault(" ".repeat(995) + "burn ", 1, 1000);
        history("eat", 1, 3);
        history("eat ha", 1, 6);
        history("eat ha pa ", 1, 10);
        history("bite ha hb", 1, 10);
        history("copy", 1, 4);
        history("dies", 1, 4);
        history("night\n", 1, 6);
    }

    private static void theFirstWrongTokenTheLeastKind() {
        check.fault("fact a;fact a b;!", 3, 12);
        check.fault("fact a;fact b leans c c;", 2, 20);
        check.fault("page p true weigh 0 copies 10 says a;", 4, 18);
        check.fault("page p true weigh 1 copies 10 says a;", 4, 27);
        check.fault("page p true weigh 1 copies 1 says a;", 2, 34);
        check.fault("page p 1 weigh 0 copies 1 says a;", 1, 7);
        check.fault("fact a;page a odd weigh 0;", 3, 12);
        String facts = many("fact f", 12, ";");
        check.fault(facts + "fact fa leans zz;!", 5, facts.length());
        check.fault(facts + "page fa lie weigh 0", 3, facts.length() + 5);
        String tasks = "fact a;" + many("task t", 5, " worth 1 needs a;");
        check.fault(tasks + "task ta worth 100 needs b;", 5, tasks.length());
        check.fault("copy 1;copy (((((1", 3, 7);
        check.fault("burn 11;burn 11;", 4, 5);
        check.fault("burn 1;burn 11;", 3, 7);
        check.fault("fact a;clash b b;", 2, 13);
        history("bite zz zz zz;", 2, 5);
        history("eat ha zz;eat", 2, 7);
    }

    private static final String RICH = "fact a;fact b leans a;fact c;page p true weigh 2 copies 3 says a b;"
        + "page q recipe weigh 1 copies 1 says c;page r lie weigh 1 copies 2 says c;person ann room 9 die 1;"
        + "person ben room 8 die 2 heir ann;task t worth 5 needs a b;task u worth 6 needs c;clash a c;burn 3;copy 4;bite 1;";

    /** An object with something of all that a library resets. */
    private static EatKnown busy() {
        EatKnown x = Check.of(RICH);
        x.eat(0, 0);
        x.eat(0, 1);
        x.bite(1, 0, 0);
        x.copy(0);
        x.tell(0, true);
        x.tell(1, false);
        Check.history(x, "eat ann p;night;dies ben;");
        x.mark(0, false);
        x.mark(3, false);
        x.days(5);
        x.dies(0);
        return x;
    }

    private static void withoutAFaultAllIsNew() {
        EatKnown x = busy();
        String fresh = Check.all(Check.of(RICH));
        check.same("undoable", x.count(11), 6);
        check.same("the same library again", Check.library(x, RICH), 0);
        check.same("all is as on a new object", fresh.equals(Check.all(x)), true);
        check.same("day 0", x.count(6), 0);
        check.same("all alive", x.count(4), 2);
        check.same("copies as told", x.count(5), 6);
        check.same("nothing spent", x.count(7), 0);
        check.same("no history", x.count(8), 0);
        check.same("nothing told", x.count(9), 0);
        check.same("nothing can be undone", x.undo(), false);
        for (int mark = 0; mark < 4; mark++) {
            check.same("no mark " + mark, x.mark(mark, true), false);
        }
        EatKnown y = busy();
        check.same("an empty library", y.library(), 0);
        check.same("all is as at first", Check.all(new EatKnown()).equals(Check.all(y)), true);
        check.same("nothing can be undone", y.undo(), false);
        check.same("no mark", y.mark(0, true), false);
    }

    private static final String POOR = "fact a;fact b;fact c;page p true weigh 1 copies 1 says a;page q true weigh 1 copies 1 says b;"
        + "person ann room 1 die 0;person ben room 40 die 0;task t worth 1 needs a;";

    /** Each reading begins with nothing, whatever was read before, with a fault, too. */
    private static void nothingOfWhatWasReadBefore() {
        String rich = Check.all(Check.of(RICH));
        String poor = Check.all(Check.of(POOR));
        String none = Check.all(new EatKnown());
        EatKnown x = busy();
        for (int round = 0; round < 3; round++) {
            check.same("poor", Check.library(x, POOR), 0);
            check.same("nothing of the rich one", poor.equals(Check.all(x)), true);
            check.same("room for p alone", x.eat(0, 0), true);
            check.same("copy is heavy", x.copy(1), 1);
            x.eat(1, 1);
            check.same("no heir, no E of bite", x.bite(0, 1, 1) + x.dies(1), -1);
            check.same("rich", Check.library(x, RICH), 0);
            check.same("nothing of the poor one", rich.equals(Check.all(x)), true);
            check.same("copy 4", x.copy(0), 4);
            check.same("a fault", Check.library(x, RICH + "!"), 1 + 16 * RICH.length());
            check.same("nothing", x.library(), 0);
            check.same("is nothing", none.equals(Check.all(x)), true);
            check.same("a fault", Check.library(x, RICH + "!"), 1 + 16 * RICH.length());
            check.same("without E", Check.library(x, RICH.replace("burn 3;copy 4;bite 1;", "")), 0);
            check.same("copy is heavy", x.copy(0), 2);
            x.eat(0, 0);
            x.eat(0, 1);
            check.same("bite is 0", x.bite(1, 0, 0), 1);
            check.same("burn is 0", x.count(10), 0);
        }
    }

    private static void withAFaultAllStays() {
        String other = "fact x;page y lie weigh 9 copies 9 says x;person z room 40 die 10;burn 10;copy 99;bite 9;";
        String[] wrong = {"fact", "fact a;fact a;", "!", ";", other + "copy", other + "eat",
            RICH + "burn 3;", RICH + "night;", "burn 11;", "clash a c;", "person ann room 41 die 1;"};
        for (String text : wrong) {
            EatKnown x = busy();
            String ahead = Check.all(x);
            check.same("a fault in " + text, Check.library(x, text) != 0, true);
            check.same("all stays behind " + text, ahead.equals(Check.all(x)), true);
            check.same("undo stays", x.count(11), 6);
            check.same("undo a death", x.undo(), true);
            check.same("ann is alive again", x.person(0, 0), 1);
            check.same("undo days", x.undo(), true);
            check.same("as told ahead", x.count(6), 0);
            check.same("a mark stays", x.mark(3, true), true);
            check.same("what copies cost stays", x.copy(0), 4);
            check.same("what is not marked is not", x.mark(1, true), false);
        }
        for (String text : new String[] {"eat", "night;night;eat ann", "eat ann z;", "!", "night;".repeat(25), "fact a;", ";"}) {
            EatKnown x = busy();
            String ahead = Check.all(x);
            check.same("a fault in the history " + text, Check.history(x, text) != 0, true);
            check.same("all stays behind the history " + text, ahead.equals(Check.all(x)), true);
            check.same("three lines", x.count(8), 3);
            check.same("undo stays", x.undo(), true);
            check.same("a mark stays", x.mark(0, true), true);
        }
    }

    private static void aHistoryIsTheHistory() {
        EatKnown x = busy();
        String ahead = Check.all(x);
        check.same("another", Check.history(x, "dies ann;dies ann;dies ben;night;"), 0);
        check.same("four lines", x.count(8), 4);
        check.same("the second can't be", x.judged(0), 1);
        check.same("nothing can be undone of it", x.count(11), 6);
        check.same("the day stays", x.count(6), 5);
        check.same("marks stay", x.mark(0, true), true);
        check.same("a mark has its own", x.count(8), 3);
        EatKnown y = busy();
        check.same("an empty one", y.history(), 0);
        check.same("no lines", y.count(8), 0);
        check.same("the one of ahead", Check.history(y, "eat ann p;night;dies ben;"), 0);
        check.same("all is as ahead", ahead.equals(Check.all(y)), true);
    }

    private static void atFirstNothing() {
        EatKnown x = new EatKnown();
        String fresh = Check.all(x);
        check.same("an empty tape", x.library(), 0);
        check.same("is as nothing", fresh.equals(Check.all(x)), true);
        for (int what = 0; what <= 12; what++) {
            check.same("count " + what, x.count(what), 0);
        }
        check.same("a night", x.days(1000), 1000);
        check.same("that can be undone", x.undo(), true);
        check.same("as at first", fresh.equals(Check.all(x)), true);
    }
}
