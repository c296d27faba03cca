import java.util.NoSuchElementException;

/** A library whose pages are learnt by eating them: ../shared/DOC.md says what each call answers. */
public final class EatKnown {
    public static final int NONE = -1;

    private static final int MOST_FACTS = 12;
    private static final int MOST_PAGES = 12;
    private static final int MOST_PEOPLE = 6;
    private static final int MOST_TASKS = 5;
    private static final int MOST_LINES = 24;
    private static final int MOST_SIGNS = 1000;
    private static final int MOST_COPIES = 9;
    private static final int MOST_UNDONE = 16;
    private static final int MOST_MARKS = 4;
    private static final int MOST_TOLD = 12;
    private static final int MOST_DAYS = 1000;
    private static final int MOST_WEIGHT = 200;
    private static final int MOST_HANDS = 4;
    private static final int MOST_SEED = 9999;
    private static final int MOST_YEARS = 60;
    private static final int MOST_SEATS = 3;

    private static final int LIE = 1;
    private static final int RECIPE = 2;

    private final Tape tape;
    private final Reader reader;
    private Library library;
    private Library spareLibrary;
    private final Lines spareLines;
    private final Standing now;
    private final Life trial;
    private final Life before;
    private final Life[] past;
    private int pastFirst;
    private int pastMany;
    private final Standing[] marks;
    private final int[] guessesAble;
    private final Groups groups;
    private final Seats seats;
    private final Hands copyists;

    public EatKnown() {
        tape = new Tape();
        reader = new Reader(tape);
        library = new Library();
        spareLibrary = new Library();
        spareLines = new Lines();
        now = new Standing();
        trial = new Life();
        before = new Life();
        past = new Life[MOST_UNDONE];
        for (int i = 0; i < past.length; i++) {
            past[i] = new Life();
        }
        marks = new Standing[MOST_MARKS];
        for (int i = 0; i < marks.length; i++) {
            marks[i] = new Standing();
        }
        guessesAble = new int[MOST_TASKS];
        groups = new Groups();
        seats = new Seats();
        copyists = new Hands();
    }

    public int feed(long a, long b, long c) {
        tape.put(a);
        tape.put(b);
        tape.put(c);
        return tape.many;
    }

    public int library() {
        int fault = reader.readLibrary(spareLibrary);
        if (fault != 0) {
            return fault;
        }
        Library read = spareLibrary;
        spareLibrary = library;
        library = read;
        now.begin(library);
        forgetPast();
        for (int i = 0; i < marks.length; i++) {
            marks[i].laid = false;
        }
        return 0;
    }

    public int history() {
        int fault = reader.readHistory(library, spareLines);
        if (fault == 0) {
            now.lines.set(spareLines);
        }
        return fault;
    }

    public int fact(int fact, int what) {
        if (!library.facts.has(fact)) {
            return NONE;
        }
        switch (what) {
            case 0:
                return library.leans[fact];
            case 1:
                return library.clashes[fact];
            case 2:
                return library.pagesSaying(fact);
            default:
                return NONE;
        }
    }

    public int page(int page, int what) {
        if (!library.pages.has(page)) {
            return NONE;
        }
        switch (what) {
            case 0:
                return library.kinds[page];
            case 1:
                return library.weights[page];
            case 2:
                return now.life.copies[page];
            case 3:
                return library.says[page];
            case 4:
                return now.life.eatersOf(page);
            default:
                return NONE;
        }
    }

    public int person(int person, int what) throws NoSuchElementException {
        if (!library.people.has(person)) {
            throw new NoSuchElementException();
        }
        Life life = now.life;
        switch (what) {
            case 0:
                return life.lives(person) ? 1 : 0;
            case 1:
                return library.rooms[person];
            case 2:
                return life.left[person];
            case 3:
                return library.heirs[person];
            case 4:
                return life.eaten[person];
            case 5:
                return life.known(library, person);
            case 6:
                return library.understood(life.known(library, person));
            case 7:
                return library.said(life.eaten[person]);
            case 8:
                return library.doable(life.known(library, person));
            default:
                throw new NoSuchElementException();
        }
    }

    public int task(int task, int what) {
        if (!library.tasks.has(task)) {
            return NONE;
        }
        switch (what) {
            case 0:
                return library.worths[task];
            case 1:
                return library.needs[task];
            case 2:
                return now.life.ableTo(library, task);
            default:
                return NONE;
        }
    }

    public boolean eat(int person, int page) {
        before.set(now.life);
        boolean done = now.life.eats(library, person, page);
        if (done) {
            remember();
        }
        return done;
    }

    public int bite(int person, int bitten, int page) {
        before.set(now.life);
        int gone = now.life.bites(library, person, bitten, page);
        if (gone != NONE) {
            remember();
        }
        return gone;
    }

    public int copy(int page) {
        before.set(now.life);
        int cost = now.life.copied(library, page);
        if (cost != NONE) {
            remember();
        }
        return cost;
    }

    public int dies(int person) {
        before.set(now.life);
        int inherited = now.life.ends(library, person);
        if (inherited != NONE) {
            remember();
        }
        return inherited;
    }

    public int days(int many) {
        if (many < 1 || many > MOST_DAYS) {
            return NONE;
        }
        before.set(now.life);
        now.life.pass(library, many);
        remember();
        return now.life.day;
    }

    public boolean undo() {
        if (pastMany < 1) {
            return false;
        }
        pastMany--;
        now.life.set(past[Math.floorMod(pastFirst + pastMany, MOST_UNDONE)]);
        return true;
    }

    public int lost() {
        return now.life.gone(library);
    }

    public int judged(int what) {
        if (what < 0 || what > 2) {
            return -2;
        }
        trial.begin(library);
        int lostAtFirst = trial.gone(library);
        int firstWrong = NONE;
        int firstLoss = NONE;
        for (int line = 0; line < now.lines.many; line++) {
            boolean done = now.lines.happens(line, library, trial);
            if (!done && firstWrong == NONE) {
                firstWrong = line;
            }
            if (firstLoss == NONE && (trial.gone(library) & ~lostAtFirst) != 0) {
                firstLoss = line;
            }
        }
        if (what == 0) {
            return firstWrong;
        }
        return what == 1 ? firstLoss : trial.gone(library);
    }

    public int meal(int person, int task, int what) {
        if (!now.life.lives(person) || !library.tasks.has(task) || what < 0 || what > 1) {
            return NONE;
        }
        int set = leastMeal(now.life.eaten[person], task);
        if (set == NONE) {
            return NONE;
        }
        return what == 0 ? library.weightOf(set) : set;
    }

    public int safe(int deaths) {
        if (deaths < 0 || deaths > MOST_PEOPLE) {
            return NONE;
        }
        int frail = now.life.knownByAtMost(library, deaths) & ~now.life.gone(library);
        int usable = now.life.inStock() & library.honest;
        int best = NONE;
        for (int set = 0; set <= usable; set++) {
            if ((set & ~usable) == 0 && isFewer(set, best) && (frail & ~library.said(set)) == 0) {
                best = set;
            }
        }
        return best;
    }

    public int sit(int task) {
        if (!library.tasks.has(task)) {
            return NONE;
        }
        return groups.fewest(library, now.life, task);
    }

    public int evenings() {
        return groups.fewestEvenings(library, now.life);
    }

    public boolean tell(int task, boolean can) {
        if (!library.tasks.has(task) || now.told >= MOST_TOLD) {
            return false;
        }
        now.told++;
        if (can) {
            now.toldCan |= 1 << task;
        } else {
            now.toldCannot |= 1 << task;
        }
        return true;
    }

    public int guessed(int weight, int what) {
        if (weight < 0 || weight > MOST_WEIGHT || what < 0 || what > 3) {
            return NONE;
        }
        int many = 0;
        int inAll = library.honest;
        int inSome = 0;
        for (int task = 0; task < MOST_TASKS; task++) {
            guessesAble[task] = 0;
        }
        for (int set = 0; set <= library.honest; set++) {
            if ((set & ~library.honest) == 0 && library.weightOf(set) <= weight) {
                int can = library.doable(library.said(set));
                if (fitsTold(can)) {
                    many++;
                    inAll &= set;
                    inSome |= set;
                    countAble(can);
                }
            }
        }
        if (many == 0) {
            return NONE;
        }
        switch (what) {
            case 0:
                return many;
            case 1:
                return inAll;
            case 2:
                return inSome;
            default:
                return tellingTask(many);
        }
    }

    public int unlearn(int person) {
        if (!library.people.has(person)) {
            return NONE;
        }
        return fewestWithoutClash(now.life.eaten[person]);
    }

    public int lies(int what) {
        int all = library.allPages();
        int least = fewestWithoutClash(all);
        switch (what) {
            case 0:
                return Integer.bitCount(least);
            case 1:
                return least;
            case 2:
                return waysWithoutClash(all, Integer.bitCount(least));
            case 3:
                return inAllWithoutClash(all, Integer.bitCount(least));
            default:
                return NONE;
        }
    }

    public int rests(int people, int what) {
        int many = Integer.bitCount(people);
        if ((people & ~now.life.alive) != 0 || many < 2 || many > MOST_SEATS || what < NONE) {
            return NONE;
        }
        seats.look(library, now.life, people, what);
        return what == NONE ? seats.found : seats.answer;
    }

    public int hands(int many, int what) {
        if (many < 0 || many > MOST_HANDS || what < 0 || what > many) {
            return NONE;
        }
        copyists.look(library, now.life, many);
        if (copyists.best == NONE || what == 0) {
            return copyists.best;
        }
        return copyists.bestRow[what - 1];
    }

    public int price(int page, int what) {
        if (!library.pages.has(page) || what < 0 || what > 1) {
            return NONE;
        }
        int most = NONE;
        int whose = NONE;
        for (int i = 0; i < library.people.many; i++) {
            if (now.life.lives(i)) {
                int gain = library.worthWith(now.life.eaten[i] | 1 << page) - library.worthWith(now.life.eaten[i]);
                if (gain > most) {
                    most = gain;
                    whose = i;
                }
            }
        }
        return what == 0 ? most : whose;
    }

    public int years(int seed, int days, int what) {
        if (seed < 0 || seed > MOST_SEED || days < 1 || days > MOST_YEARS || what < 0 || what > 2) {
            return NONE;
        }
        trial.set(now.life);
        long draw = seed;
        int meals = 0;
        int deaths = 0;
        for (int day = 0; day < days; day++) {
            for (int i = 0; i < library.people.many; i++) {
                if (trial.lives(i) && library.pages.many > 0) {
                    draw = drawAfter(draw);
                    meals += trial.eats(library, i, drawn(draw, library.pages.many)) ? 1 : 0;
                }
            }
            for (int i = 0; i < library.people.many; i++) {
                if (trial.lives(i)) {
                    draw = drawAfter(draw);
                    if (drawn(draw, 10) < library.dies[i]) {
                        trial.ends(library, i);
                        deaths++;
                    }
                }
            }
            trial.pass(library, 1);
        }
        if (what == 0) {
            return meals;
        }
        return what == 1 ? deaths : Integer.bitCount(trial.gone(library));
    }

    public boolean mark(int mark, boolean back) {
        if (mark < 0 || mark >= marks.length) {
            return false;
        }
        if (!back) {
            marks[mark].set(now);
            marks[mark].laid = true;
            return true;
        }
        if (!marks[mark].laid) {
            return false;
        }
        now.set(marks[mark]);
        forgetPast();
        return true;
    }

    public int count(int what) {
        switch (what) {
            case 0:
                return library.facts.many;
            case 1:
                return library.pages.many;
            case 2:
                return library.people.many;
            case 3:
                return library.tasks.many;
            case 4:
                return Integer.bitCount(now.life.alive);
            case 5:
                return now.life.allCopies();
            case 6:
                return now.life.day;
            case 7:
                return now.life.spent;
            case 8:
                return now.lines.many;
            case 9:
                return now.told;
            case 10:
                return library.burn;
            case 11:
                return pastMany;
            case 12:
                return tape.many;
            default:
                return NONE;
        }
    }

    private void remember() {
        past[Math.floorMod(pastFirst + pastMany, MOST_UNDONE)].set(before);
        if (pastMany < MOST_UNDONE) {
            pastMany++;
        } else {
            pastFirst = Math.floorMod(pastFirst + 1, MOST_UNDONE);
        }
    }

    private void forgetPast() {
        pastFirst = 0;
        pastMany = 0;
    }

    /** Sets are walked from the least up, so of equally few ones the first that is found is the least. */
    private static boolean isFewer(int set, int best) {
        return best == NONE || Integer.bitCount(set) < Integer.bitCount(best);
    }

    private int leastMeal(int eaten, int task) {
        int usable = now.life.inStock() & ~eaten;
        int best = NONE;
        for (int set = 0; set <= usable; set++) {
            if ((set & ~usable) == 0 && isLighter(set, best) && library.can(eaten | set, task)) {
                best = set;
            }
        }
        return best;
    }

    private boolean isLighter(int set, int best) {
        if (best == NONE) {
            return true;
        }
        int weight = library.weightOf(set);
        int least = library.weightOf(best);
        return weight < least || weight == least && isFewer(set, best);
    }

    private boolean fitsTold(int can) {
        return (now.toldCan & ~can) == 0 && (now.toldCannot & can) == 0;
    }

    private void countAble(int can) {
        for (int task = 0; task < MOST_TASKS; task++) {
            guessesAble[task] += can >> task & 1;
        }
    }

    private int tellingTask(int many) {
        int best = NONE;
        int most = 0;
        for (int task = 0; task < MOST_TASKS; task++) {
            int lesser = Math.min(guessesAble[task], many - guessesAble[task]);
            if (lesser > most) {
                most = lesser;
                best = task;
            }
        }
        return best;
    }

    private boolean endsClash(int pages, int without) {
        return (without & ~pages) == 0 && !library.isTorn(library.said(pages & ~without));
    }

    /** Without all of them nothing is said, so there is always an answer. */
    private int fewestWithoutClash(int pages) {
        int best = pages;
        for (int set = 0; set <= pages; set++) {
            if (isFewer(set, best) && endsClash(pages, set)) {
                best = set;
            }
        }
        return best;
    }

    private int waysWithoutClash(int pages, int few) {
        int ways = 0;
        for (int set = 0; set <= pages; set++) {
            if (Integer.bitCount(set) == few && endsClash(pages, set)) {
                ways++;
            }
        }
        return ways;
    }

    private int inAllWithoutClash(int pages, int few) {
        int inAll = pages;
        for (int set = 0; set <= pages; set++) {
            if (Integer.bitCount(set) == few && endsClash(pages, set)) {
                inAll &= set;
            }
        }
        return inAll;
    }

    private static long drawAfter(long draw) {
        return (draw * 1103515245L + 12345L) % 2147483648L;
    }

    private static int drawn(long draw, int below) {
        return below < 1 ? 0 : (int) (draw / 65536L % below);
    }

    /** Names in the order in which they were told; a name is kept as its letters, five bits each. */
    private static final class Names {
        final long[] names = new long[MOST_FACTS];
        final int most;
        int many;

        Names(int most) {
            this.most = Math.min(most, names.length);
        }

        boolean has(int number) {
            return number >= 0 && number < many && number < most;
        }

        boolean isFull() {
            return many >= most;
        }

        int find(long name) {
            for (int i = 0; i < many && i < names.length; i++) {
                if (names[i] == name) {
                    return i;
                }
            }
            return NONE;
        }

        /** The number of the new name, or NONE if there is no room for it. */
        int add(long name) {
            if (many < 0 || many >= most) {
                return NONE;
            }
            names[many] = name;
            many++;
            return many - 1;
        }
    }

    /** An E of copy or bite, its operations behind what they work on. */
    private static final class Formula {
        static final int NUMBER = 0;
        static final int HEAVY = 1;
        static final int OTHER = 2;
        static final int NOT = 3;
        static final int AND = 4;
        static final int OR = 5;
        static final int LESS = 6;
        static final int SAME = 7;
        static final int PLUS = 8;
        static final int MINUS = 9;
        static final int TIMES = 10;

        final int[] steps = new int[MOST_SIGNS];
        final int[] stack = new int[64];
        int many;

        void add(int step, int number) {
            if (many >= 0 && many < steps.length) {
                steps[many] = number * 16 + step;
                many++;
            }
        }

        int value(int heavy, int other) {
            int top = 0;
            for (int i = 0; i < many && i < steps.length; i++) {
                int step = steps[i] & 15;
                if (step <= OTHER) {
                    if (top < stack.length) {
                        stack[top] = step == NUMBER ? steps[i] >> 4 : step == HEAVY ? heavy : other;
                        top++;
                    }
                } else if (step == NOT) {
                    if (top >= 1 && top <= stack.length) {
                        stack[top - 1] = stack[top - 1] == 0 ? 1 : 0;
                    }
                } else if (top >= 2 && top <= stack.length) {
                    top--;
                    stack[top - 1] = joined(step, stack[top - 1], stack[top]);
                }
            }
            return top >= 1 ? stack[0] : 0;
        }

        private static int joined(int step, int a, int b) {
            switch (step) {
                case AND:
                    return a != 0 && b != 0 ? 1 : 0;
                case OR:
                    return a != 0 || b != 0 ? 1 : 0;
                case LESS:
                    return a < b ? 1 : 0;
                case SAME:
                    return a == b ? 1 : 0;
                case PLUS:
                    return a + b;
                case MINUS:
                    return a - b;
                default:
                    return a * b;
            }
        }
    }

    /** What a LIBRARY tells, and what follows from it alone. */
    private static final class Library {
        final Names facts = new Names(MOST_FACTS);
        final Names pages = new Names(MOST_PAGES);
        final Names people = new Names(MOST_PEOPLE);
        final Names tasks = new Names(MOST_TASKS);
        final int[] leans = new int[MOST_FACTS];
        final int[] clashes = new int[MOST_FACTS];
        final int[] kinds = new int[MOST_PAGES];
        final int[] weights = new int[MOST_PAGES];
        final int[] copies = new int[MOST_PAGES];
        final int[] says = new int[MOST_PAGES];
        final int[] rooms = new int[MOST_PEOPLE];
        final int[] dies = new int[MOST_PEOPLE];
        final int[] heirs = new int[MOST_PEOPLE];
        final int[] worths = new int[MOST_TASKS];
        final int[] needs = new int[MOST_TASKS];
        final Formula copying = new Formula();
        final Formula biting = new Formula();
        int honest;
        int burn;

        Library() {
            empty();
        }

        void empty() {
            facts.many = 0;
            pages.many = 0;
            people.many = 0;
            tasks.many = 0;
            copying.many = 0;
            copying.add(Formula.HEAVY, 0);
            biting.many = 0;
            biting.add(Formula.NUMBER, 0);
            honest = 0;
            burn = 0;
            for (int i = 0; i < MOST_PAGES; i++) {
                copies[i] = 0;
            }
            for (int i = 0; i < MOST_PEOPLE; i++) {
                rooms[i] = 0;
            }
        }

        void addFact(long name, int on) {
            int fact = facts.add(name);
            if (fact >= 0 && fact < MOST_FACTS) {
                leans[fact] = on;
                clashes[fact] = 0;
            }
        }

        void addPage(long name, int kind, int weight, int many, int saying) {
            int page = pages.add(name);
            if (page >= 0 && page < MOST_PAGES) {
                kinds[page] = kind;
                weights[page] = weight;
                copies[page] = many;
                says[page] = saying;
                honest |= kind == LIE ? 0 : 1 << page;
            }
        }

        void addPerson(long name, int room, int die, int heir) {
            int person = people.add(name);
            if (person >= 0 && person < MOST_PEOPLE) {
                rooms[person] = room;
                dies[person] = die;
                heirs[person] = heir;
            }
        }

        void addTask(long name, int worth, int needing) {
            int task = tasks.add(name);
            if (task >= 0 && task < MOST_TASKS) {
                worths[task] = worth;
                needs[task] = needing;
            }
        }

        void addClash(int one, int other) {
            if (facts.has(one) && facts.has(other)) {
                clashes[one] |= 1 << other;
                clashes[other] |= 1 << one;
            }
        }

        boolean isTold(long name) {
            return facts.find(name) != NONE || pages.find(name) != NONE
                || people.find(name) != NONE || tasks.find(name) != NONE;
        }

        int allFacts() {
            return (1 << facts.many) - 1;
        }

        int allPages() {
            return (1 << pages.many) - 1;
        }

        int pagesSaying(int fact) {
            int set = 0;
            for (int i = 0; i < pages.many; i++) {
                set |= (says[i] >> fact & 1) << i;
            }
            return set;
        }

        int said(int set) {
            int told = 0;
            for (int i = 0; i < pages.many; i++) {
                if ((set >> i & 1) != 0) {
                    told |= says[i];
                }
            }
            return told;
        }

        int weightOf(int set) {
            int weight = 0;
            for (int i = 0; i < pages.many; i++) {
                if ((set >> i & 1) != 0) {
                    weight += weights[i];
                }
            }
            return weight;
        }

        /** A fact leans on earlier ones alone, so one pass is enough. */
        int understood(int known) {
            int set = 0;
            for (int i = 0; i < facts.many; i++) {
                if ((known >> i & 1) != 0 && (leans[i] & ~set) == 0) {
                    set |= 1 << i;
                }
            }
            return set;
        }

        int doable(int known) {
            int clear = understood(known);
            int set = 0;
            for (int i = 0; i < tasks.many; i++) {
                if ((needs[i] & ~clear) == 0) {
                    set |= 1 << i;
                }
            }
            return set;
        }

        boolean can(int eaten, int task) {
            return (doable(said(eaten & honest)) >> task & 1) != 0;
        }

        int worthWith(int eaten) {
            int can = doable(said(eaten & honest));
            int worth = 0;
            for (int i = 0; i < tasks.many; i++) {
                if ((can >> i & 1) != 0) {
                    worth += worths[i];
                }
            }
            return worth;
        }

        boolean isTorn(int believed) {
            for (int i = 0; i < facts.many; i++) {
                if ((believed >> i & 1) != 0 && (clashes[i] & believed) != 0) {
                    return true;
                }
            }
            return false;
        }
    }

    /** Who is alive, has eaten what, and what is left, on one day. */
    private static final class Life {
        final int[] eaten = new int[MOST_PEOPLE];
        final int[] left = new int[MOST_PEOPLE];
        final int[] copies = new int[MOST_PAGES];
        int alive;
        int day;
        int spent;

        void begin(Library library) {
            for (int i = 0; i < MOST_PEOPLE; i++) {
                eaten[i] = 0;
                left[i] = library.rooms[i];
            }
            for (int i = 0; i < MOST_PAGES; i++) {
                copies[i] = library.copies[i];
            }
            alive = (1 << library.people.many) - 1;
            day = 0;
            spent = 0;
        }

        void set(Life other) {
            System.arraycopy(other.eaten, 0, eaten, 0, MOST_PEOPLE);
            System.arraycopy(other.left, 0, left, 0, MOST_PEOPLE);
            System.arraycopy(other.copies, 0, copies, 0, MOST_PAGES);
            alive = other.alive;
            day = other.day;
            spent = other.spent;
        }

        boolean lives(int person) {
            return person >= 0 && person < MOST_PEOPLE && (alive >> person & 1) != 0;
        }

        boolean hasEaten(int person, int page) {
            return (eaten[person] >> page & 1) != 0;
        }

        /** True if somebody alive has not eaten the page yet and has room for it today. */
        boolean takes(Library library, int person, int page) {
            return lives(person) && library.pages.has(page) && !hasEaten(person, page)
                && library.weights[page] <= left[person];
        }

        private void swallow(Library library, int person, int page) {
            eaten[person] |= 1 << page;
            left[person] -= library.weights[page];
        }

        boolean eats(Library library, int person, int page) {
            if (!takes(library, person, page) || copies[page] < 1) {
                return false;
            }
            swallow(library, person, page);
            if (library.kinds[page] != RECIPE) {
                copies[page]--;
            }
            return true;
        }

        int bites(Library library, int person, int bitten, int page) {
            if (!takes(library, person, page) || !lives(bitten) || bitten == person || !hasEaten(bitten, page)) {
                return NONE;
            }
            int has = Integer.bitCount(eaten[bitten]);
            int others = library.biting.value(library.weights[page], has);
            swallow(library, person, page);
            eaten[bitten] &= ~(1 << page);
            int gone = 1;
            for (int i = 0; i < library.pages.many && gone <= others; i++) {
                if (hasEaten(bitten, i)) {
                    eaten[bitten] &= ~(1 << i);
                    gone++;
                }
            }
            return gone;
        }

        int copied(Library library, int page) {
            if (!library.pages.has(page) || copies[page] < 1 || copies[page] >= MOST_COPIES) {
                return NONE;
            }
            int cost = Math.max(0, Math.min(99, library.copying.value(library.weights[page], copies[page])));
            copies[page]++;
            spent += cost;
            return cost;
        }

        int ends(Library library, int person) {
            if (!lives(person)) {
                return NONE;
            }
            alive &= ~(1 << person);
            int heir = library.heirs[person];
            int inherited = 0;
            for (int i = 0; i < library.pages.many; i++) {
                if (hasEaten(person, i) && takes(library, heir, i)) {
                    swallow(library, heir, i);
                    inherited |= 1 << i;
                }
            }
            return inherited;
        }

        void pass(Library library, int many) {
            for (int i = 0; i < MOST_PEOPLE; i++) {
                left[i] = library.rooms[i];
            }
            day += many;
        }

        int known(Library library, int person) {
            return library.said(eaten[person] & library.honest);
        }

        int eatersOf(int page) {
            int set = 0;
            for (int i = 0; i < MOST_PEOPLE; i++) {
                if (lives(i) && hasEaten(i, page)) {
                    set |= 1 << i;
                }
            }
            return set;
        }

        int ableTo(Library library, int task) {
            int set = 0;
            for (int i = 0; i < MOST_PEOPLE; i++) {
                if (lives(i) && library.can(eaten[i], task)) {
                    set |= 1 << i;
                }
            }
            return set;
        }

        /** The facts that no more than so many alive know. */
        int knownByAtMost(Library library, int most) {
            int set = 0;
            for (int fact = 0; fact < library.facts.many; fact++) {
                int knowing = 0;
                for (int i = 0; i < MOST_PEOPLE; i++) {
                    if (lives(i)) {
                        knowing += known(library, i) >> fact & 1;
                    }
                }
                if (knowing <= most) {
                    set |= 1 << fact;
                }
            }
            return set;
        }

        int inStock() {
            int set = 0;
            for (int i = 0; i < MOST_PAGES; i++) {
                if (copies[i] > 0) {
                    set |= 1 << i;
                }
            }
            return set;
        }

        int allCopies() {
            int sum = 0;
            for (int i = 0; i < MOST_PAGES; i++) {
                sum += copies[i];
            }
            return sum;
        }

        int knownToSome(Library library) {
            int set = 0;
            for (int i = 0; i < MOST_PEOPLE; i++) {
                if (lives(i)) {
                    set |= known(library, i);
                }
            }
            return set;
        }

        /** The facts that are LOST. */
        int gone(Library library) {
            return library.allFacts() & ~knownToSome(library) & ~library.said(inStock() & library.honest);
        }
    }

    /** The lines of a HISTORY. */
    private static final class Lines {
        final int[] acts = new int[MOST_LINES];
        final int[] people = new int[MOST_LINES];
        final int[] bitten = new int[MOST_LINES];
        final int[] pages = new int[MOST_LINES];
        int many;

        boolean isFull() {
            return many >= MOST_LINES;
        }

        void add(int act, int person, int whom, int page) {
            if (many >= 0 && many < MOST_LINES) {
                acts[many] = act;
                people[many] = person;
                bitten[many] = whom;
                pages[many] = page;
                many++;
            }
        }

        void set(Lines other) {
            System.arraycopy(other.acts, 0, acts, 0, MOST_LINES);
            System.arraycopy(other.people, 0, people, 0, MOST_LINES);
            System.arraycopy(other.bitten, 0, bitten, 0, MOST_LINES);
            System.arraycopy(other.pages, 0, pages, 0, MOST_LINES);
            many = other.many;
        }

        /** True if the line can be; it has happened then. */
        boolean happens(int line, Library library, Life life) {
            if (line < 0 || line >= many || line >= MOST_LINES) {
                return false;
            }
            switch (acts[line]) {
                case Tape.EAT:
                    return life.eats(library, people[line], pages[line]);
                case Tape.BITE:
                    return life.bites(library, people[line], bitten[line], pages[line]) != NONE;
                case Tape.COPY:
                    return life.copied(library, pages[line]) != NONE;
                case Tape.DIES:
                    return life.ends(library, people[line]) != NONE;
                default:
                    life.pass(library, 1);
                    return true;
            }
        }
    }

    /** All that a MARK holds. */
    private static final class Standing {
        final Life life = new Life();
        final Lines lines = new Lines();
        int told;
        int toldCan;
        int toldCannot;
        boolean laid;

        void begin(Library library) {
            life.begin(library);
            lines.many = 0;
            told = 0;
            toldCan = 0;
            toldCannot = 0;
        }

        void set(Standing other) {
            life.set(other.life);
            lines.set(other.lines);
            told = other.told;
            toldCan = other.toldCan;
            toldCannot = other.toldCannot;
        }
    }

    /** The TAPE, and the tokens of which it is made up. */
    private static final class Tape {
        static final int NAME = 1;
        static final int NUMBER = 2;
        static final int END = 3;
        static final int WRONG = 4;
        /** Signs are told by their own numbers, reserved words by these, in the order of WORDS. */
        static final int FACT = 200;
        static final int LEANS = 201;
        static final int PAGE = 202;
        static final int WEIGH = 203;
        static final int COPIES = 204;
        static final int SAYS = 205;
        static final int CLASH = 206;
        static final int PERSON = 207;
        static final int ROOM = 208;
        static final int DIE = 209;
        static final int HEIR = 210;
        static final int TASK = 211;
        static final int WORTH = 212;
        static final int NEEDS = 213;
        static final int COPY = 214;
        static final int BITE = 215;
        static final int BURN = 216;
        /** The first of the KINDS, which stand in the order of their numbers. */
        static final int TRUE = 217;
        static final int EAT = 220;
        static final int DIES = 221;
        static final int NIGHT = 222;
        static final int NOT = 223;
        static final int AND = 224;
        static final int OR = 225;
        /** From here on words may be names, too. */
        static final int HEAVY = 226;
        static final int THERE = 227;
        static final int HAS = 228;

        static final int LONGEST_WORD = 8;
        static final int LONGEST_NUMBER = 4;
        static final String WORDS = "fact leans page weigh copies says clash person room die heir task worth needs copy bite burn true lie recipe eat dies night not and or heavy there has ";

        final char[] signs = new char[MOST_SIGNS];
        /** Of each token, and of the END behind them: its sort, its first sign's place, and its number or letters. */
        final int[] sorts = new int[MOST_SIGNS + 1];
        final int[] places = new int[MOST_SIGNS + 1];
        final long[] values = new long[MOST_SIGNS + 1];
        int many;
        int tokens;

        void put(long bytes) {
            for (int shift = 56; shift >= 0; shift -= 8) {
                int sign = (int) (bytes >>> shift & 255);
                boolean counts = sign == 10 || sign >= 32 && sign <= 126;
                if (counts && many >= 0 && many < signs.length) {
                    signs[many] = (char) sign;
                    many++;
                }
            }
        }

        /** Takes the signs, and leaves their tokens. */
        void split() {
            tokens = 0;
            int at = 0;
            while (at < many) {
                int sign = signAt(at);
                int end = at + 1;
                if (isLetter(sign)) {
                    end = addWord(at);
                } else if (isDigit(sign)) {
                    end = addNumber(at);
                } else if (sign != 10 && sign != ' ') {
                    add(isMark(sign) ? sign : WRONG, at, 0);
                }
                at = Math.max(at + 1, end);
            }
            add(END, many, 0);
            many = 0;
        }

        private void add(int sort, int place, long value) {
            if (tokens >= 0 && tokens < sorts.length) {
                sorts[tokens] = sort;
                places[tokens] = place;
                values[tokens] = value;
                tokens++;
            }
        }

        private int signAt(int at) {
            return at >= 0 && at < many && at < signs.length ? signs[at] : 0;
        }

        private static boolean isLetter(int sign) {
            return sign >= 'a' && sign <= 'z';
        }

        private static boolean isDigit(int sign) {
            return sign >= '0' && sign <= '9';
        }

        private static boolean isMark(int sign) {
            switch (sign) {
                case '(':
                case ')':
                case '<':
                case '=':
                case '+':
                case '-':
                case '*':
                case ';':
                    return true;
                default:
                    return false;
            }
        }

        /** The place behind the word that begins here. */
        private int addWord(int from) {
            int end = from;
            long letters = 0;
            while (end < many && isLetter(signAt(end))) {
                letters = letters * 32 + (signAt(end) - 'a' + 1);
                end++;
            }
            int length = end - from;
            add(length > LONGEST_WORD ? WRONG : sortOfWord(from, length), from, letters);
            return end;
        }

        /** The place behind the number that begins here. */
        private int addNumber(int from) {
            int end = from;
            long number = 0;
            while (end < many && isDigit(signAt(end))) {
                number = number * 10 + (signAt(end) - '0');
                end++;
            }
            add(end - from > LONGEST_NUMBER ? WRONG : NUMBER, from, number);
            return end;
        }

        private int sortOfWord(int from, int length) {
            int sort = FACT;
            int alike = 0;
            for (int i = 0; i < WORDS.length(); i++) {
                char letter = WORDS.charAt(i);
                if (letter == ' ') {
                    if (alike == length) {
                        return sort;
                    }
                    sort++;
                    alike = 0;
                } else if (alike >= 0) {
                    alike = alike < length && signAt(from + alike) == letter ? alike + 1 : NONE;
                }
            }
            return NAME;
        }
    }

    /** Reads the TAPE as a LIBRARY or a HISTORY; behind the first FAULT it reads nothing any more. */
    private static final class Reader {
        private static final int CANNOT_STAND = 1;
        private static final int NOT_TOLD = 2;
        private static final int TOLD_ALREADY = 3;
        private static final int WRONG_NUMBER = 4;
        private static final int TOO_MANY = 5;
        private static final int DEEPEST = 5;
        private static final int PART_LEVEL = 4;

        private final Tape tape;
        private int at;
        private Library book;
        private Lines lines;
        private Formula formula;
        private int otherWord;
        private boolean copyTold;
        private boolean biteTold;
        private boolean burnTold;
        private int fault;

        Reader(Tape tape) {
            this.tape = tape;
        }

        int readLibrary(Library into) {
            book = into;
            book.empty();
            copyTold = false;
            biteTold = false;
            burnTold = false;
            begin();
            for (int i = 0; i < MOST_SIGNS && fault == 0 && sort() != Tape.END; i++) {
                readStatement();
            }
            return fault;
        }

        int readHistory(Library library, Lines into) {
            book = library;
            lines = into;
            lines.many = 0;
            begin();
            for (int i = 0; i < MOST_SIGNS && fault == 0 && sort() != Tape.END; i++) {
                readLine();
            }
            return fault;
        }

        private void begin() {
            tape.split();
            at = 0;
            fault = 0;
        }

        private int sort() {
            return at >= 0 && at < tape.sorts.length ? tape.sorts[at] : Tape.END;
        }

        private long value() {
            return at >= 0 && at < tape.values.length ? tape.values[at] : 0;
        }

        private boolean isName() {
            return sort() == Tape.NAME || sort() >= Tape.HEAVY;
        }

        private void fail(int kind) {
            if (fault == 0 && at >= 0 && at < tape.places.length) {
                fault = kind + 16 * tape.places[at];
            }
        }

        private void step() {
            if (fault == 0 && at + 1 < tape.tokens) {
                at++;
            }
        }

        private void take(int sort) {
            if (sort() != sort) {
                fail(CANNOT_STAND);
            }
            step();
        }

        private int takeNumber(int least, int most) {
            int number = (int) value();
            if (sort() != Tape.NUMBER) {
                fail(CANNOT_STAND);
            } else if (number < least || number > most) {
                fail(WRONG_NUMBER);
            }
            step();
            return number;
        }

        /** The first word of a statement, of which there may be only so many, and the name behind it. */
        private long takeNewName(Names names) {
            if (names.isFull()) {
                fail(TOO_MANY);
            }
            step();
            long name = value();
            if (!isName()) {
                fail(CANNOT_STAND);
            } else if (book.isTold(name)) {
                fail(TOLD_ALREADY);
            }
            step();
            return name;
        }

        /** The number of the name at which the tape stands; it is not passed yet. */
        private int lookUp(Names names) {
            int number = names.find(value());
            if (!isName()) {
                fail(CANNOT_STAND);
            } else if (number == NONE) {
                fail(NOT_TOLD);
            }
            return fault == 0 ? number : NONE;
        }

        private int takeTold(Names names) {
            int number = lookUp(names);
            step();
            return number;
        }

        /** At least one fact, up to the end of the statement. */
        private int takeFacts() {
            int set = 0;
            for (int i = 0; i < MOST_SIGNS && fault == 0 && (i == 0 || sort() != ';'); i++) {
                int fact = lookUp(book.facts);
                if (fact != NONE && (set >> fact & 1) != 0) {
                    fail(TOLD_ALREADY);
                }
                if (fault == 0) {
                    set |= 1 << fact;
                }
                step();
            }
            return set;
        }

        /** True if the statement ends here without a fault. */
        private boolean ends() {
            take(';');
            return fault == 0;
        }

        private void readStatement() {
            switch (sort()) {
                case Tape.FACT:
                    readFact();
                    break;
                case Tape.PAGE:
                    readPage();
                    break;
                case Tape.CLASH:
                    readClash();
                    break;
                case Tape.PERSON:
                    readPerson();
                    break;
                case Tape.TASK:
                    readTask();
                    break;
                case Tape.COPY:
                    copyTold = isFirst(copyTold);
                    readFormula(book.copying, Tape.THERE);
                    break;
                case Tape.BITE:
                    biteTold = isFirst(biteTold);
                    readFormula(book.biting, Tape.HAS);
                    break;
                case Tape.BURN:
                    burnTold = isFirst(burnTold);
                    step();
                    book.burn = takeNumber(0, 10);
                    ends();
                    break;
                default:
                    fail(CANNOT_STAND);
            }
        }

        /** A fault if it was told before; told it is now. */
        private boolean isFirst(boolean told) {
            if (told) {
                fail(TOLD_ALREADY);
            }
            return true;
        }

        private void readFact() {
            long name = takeNewName(book.facts);
            int on = 0;
            if (sort() == Tape.LEANS) {
                step();
                on = takeFacts();
            }
            if (ends()) {
                book.addFact(name, on);
            }
        }

        private void readPage() {
            long name = takeNewName(book.pages);
            int kind = sort() - Tape.TRUE;
            if (kind < 0 || kind > RECIPE) {
                fail(CANNOT_STAND);
            }
            step();
            take(Tape.WEIGH);
            int weight = takeNumber(1, 9);
            take(Tape.COPIES);
            int copies = takeNumber(0, MOST_COPIES);
            take(Tape.SAYS);
            int says = takeFacts();
            if (ends()) {
                book.addPage(name, kind, weight, copies, says);
            }
        }

        private void readClash() {
            step();
            int one = takeTold(book.facts);
            int other = lookUp(book.facts);
            if (other != NONE && (one == other || (book.clashes[other] >> one & 1) != 0)) {
                fail(TOLD_ALREADY);
            }
            step();
            if (ends()) {
                book.addClash(one, other);
            }
        }

        private void readPerson() {
            long name = takeNewName(book.people);
            take(Tape.ROOM);
            int room = takeNumber(0, 40);
            take(Tape.DIE);
            int die = takeNumber(0, 10);
            int heir = NONE;
            if (sort() == Tape.HEIR) {
                step();
                heir = takeTold(book.people);
            }
            if (ends()) {
                book.addPerson(name, room, die, heir);
            }
        }

        private void readTask() {
            long name = takeNewName(book.tasks);
            take(Tape.WORTH);
            int worth = takeNumber(0, 99);
            take(Tape.NEEDS);
            int needs = takeFacts();
            if (ends()) {
                book.addTask(name, worth, needs);
            }
        }

        private void readFormula(Formula into, int other) {
            step();
            formula = into;
            formula.many = 0;
            otherWord = other;
            readLevel(0, 0);
            ends();
        }

        /** The operation for which a sort of token stands on a level, or NONE. */
        private static int joint(int level, int sort) {
            switch (sort) {
                case Tape.AND:
                    return level == 0 ? Formula.AND : NONE;
                case Tape.OR:
                    return level == 0 ? Formula.OR : NONE;
                case '<':
                    return level == 1 ? Formula.LESS : NONE;
                case '=':
                    return level == 1 ? Formula.SAME : NONE;
                case '+':
                    return level == 2 ? Formula.PLUS : NONE;
                case '-':
                    return level == 2 ? Formula.MINUS : NONE;
                case '*':
                    return level == 3 ? Formula.TIMES : NONE;
                default:
                    return NONE;
            }
        }

        /** Level 0 is E, 1 TEST, 2 SUM, 3 PRODUCT, 4 PART; depth is how many not and ( ) stand open. */
        private void readLevel(int level, int depth) {
            if (level >= PART_LEVEL) {
                readPart(depth);
                return;
            }
            readLevel(level + 1, depth);
            for (int i = 0; i < MOST_SIGNS && fault == 0; i++) {
                int step = joint(level, sort());
                if (step == NONE || level == 1 && i > 0) {
                    return;
                }
                step();
                readLevel(level + 1, depth);
                formula.add(step, 0);
            }
        }

        private boolean startsPart() {
            return sort() == Tape.NUMBER || sort() == Tape.NOT || sort() == '('
                || sort() == Tape.HEAVY || sort() == otherWord;
        }

        private void readPart(int depth) {
            if (!startsPart()) {
                fail(CANNOT_STAND);
            } else if (depth >= DEEPEST) {
                fail(TOO_MANY);
            }
            if (fault != 0) {
                return;
            }
            int sort = sort();
            int number = (int) value();
            step();
            if (sort == Tape.NUMBER) {
                formula.add(Formula.NUMBER, number);
            } else if (sort == Tape.NOT) {
                readPart(depth + 1);
                formula.add(Formula.NOT, 0);
            } else if (sort == '(') {
                readLevel(0, depth + 1);
                take(')');
            } else {
                formula.add(sort == Tape.HEAVY ? Formula.HEAVY : Formula.OTHER, 0);
            }
        }

        private void readLine() {
            int act = sort();
            boolean hasPerson = act == Tape.EAT || act == Tape.BITE || act == Tape.DIES;
            boolean hasPage = act == Tape.EAT || act == Tape.BITE || act == Tape.COPY;
            if (!hasPerson && !hasPage && act != Tape.NIGHT) {
                fail(CANNOT_STAND);
            } else if (lines.isFull()) {
                fail(TOO_MANY);
            }
            step();
            int person = hasPerson ? takeTold(book.people) : NONE;
            int bitten = act == Tape.BITE ? takeTold(book.people) : NONE;
            int page = hasPage ? takeTold(book.pages) : NONE;
            if (ends()) {
                lines.add(act, person, bitten, page);
            }
        }
    }

    /** People who sit together, each knowing what any of them knows. */
    private static final class Groups {
        private static final int MOST_GROUPS = 1 << MOST_PEOPLE;
        private static final int MOST_SETS = 1 << MOST_TASKS;
        private static final int NEVER = 99;

        private final int[] able = new int[MOST_GROUPS];
        private final boolean[] apart = new boolean[MOST_SETS * MOST_GROUPS];
        private final int[] least = new int[MOST_SETS];
        private int many;

        /** The TASKS that each group of the living can do. */
        private void look(Library library, Life life) {
            many = 1 << library.people.many;
            for (int group = 0; group < many && group < MOST_GROUPS; group++) {
                int known = 0;
                for (int i = 0; i < MOST_PEOPLE; i++) {
                    if ((group >> i & 1) != 0) {
                        known |= life.known(library, i);
                    }
                }
                able[group] = (group & ~life.alive) == 0 ? library.doable(known) : 0;
            }
        }

        int fewest(Library library, Life life, int task) {
            look(library, life);
            int best = NONE;
            for (int group = 0; group < many && group < MOST_GROUPS; group++) {
                if ((able[group] >> task & 1) != 0 && isFewer(group, best)) {
                    best = group;
                }
            }
            return best;
        }

        int fewestEvenings(Library library, Life life) {
            look(library, life);
            int everybody = life.alive & MOST_GROUPS - 1;
            int wanted = able[everybody] & MOST_SETS - 1;
            for (int tasks = 0; tasks <= wanted; tasks++) {
                for (int people = 0; people <= everybody; people++) {
                    apart[tasks * MOST_GROUPS + people] = canSitApart(tasks, people);
                }
                least[tasks] = eveningsFor(tasks, everybody);
            }
            return least[wanted];
        }

        /** True if each of the tasks can have a group of its own of these people; fewer tasks were looked at before. */
        private boolean canSitApart(int tasks, int people) {
            if (tasks == 0) {
                return true;
            }
            int first = Integer.bitCount((tasks & -tasks) - 1);
            int others = tasks & tasks - 1;
            for (int group = 0; group <= people; group++) {
                if ((group & ~people) == 0 && (able[group] >> first & 1) != 0
                        && apart[others * MOST_GROUPS + (people & ~group)]) {
                    return true;
                }
            }
            return false;
        }

        private int eveningsFor(int tasks, int everybody) {
            int best = tasks == 0 ? 0 : NEVER;
            for (int tonight = 1; tonight <= tasks; tonight++) {
                if ((tonight & ~tasks) == 0 && apart[tonight * MOST_GROUPS + everybody]) {
                    best = Math.min(best, least[tasks & ~tonight] + 1);
                }
            }
            return best;
        }
    }

    /**
     * People who choose a PAGE each. What one gets hangs on those ahead of him alone, so the choices at rest are
     * those in which each has the most that those ahead of him leave.
     */
    private static final class Seats {
        private static final int CHOICES = MOST_PAGES + 1;

        private final int[] people = new int[MOST_SEATS];
        private final int[] gains = new int[MOST_SEATS * CHOICES];
        private final boolean[] takes = new boolean[MOST_SEATS * CHOICES];
        private final int[] stock = new int[MOST_PAGES];
        private Library library;
        private int many;
        private int wanted;
        int found;
        int answer;

        void look(Library library, Life life, int group, int wanted) {
            this.library = library;
            this.wanted = wanted;
            found = 0;
            answer = NONE;
            many = 0;
            for (int i = 0; i < MOST_PEOPLE && many < MOST_SEATS; i++) {
                if ((group >> i & 1) != 0) {
                    people[many] = i;
                    many++;
                }
            }
            for (int page = 0; page < MOST_PAGES; page++) {
                stock[page] = life.copies[page];
            }
            for (int seat = 0; seat < many; seat++) {
                weigh(life, seat);
            }
            choose(0, 0);
        }

        /** What the one on a seat has without a meal (choice 0), and what he has by each that he may eat. */
        private void weigh(Life life, int seat) {
            int eaten = life.eaten[people[seat]];
            gains[seat * CHOICES] = library.worthWith(eaten);
            takes[seat * CHOICES] = false;
            for (int page = 0; page < library.pages.many; page++) {
                int at = seat * CHOICES + page + 1;
                takes[at] = life.takes(library, people[seat], page);
                gains[at] = library.worthWith(eaten | 1 << page) - library.weights[page];
            }
        }

        private boolean canEat(int seat, int choice) {
            return choice > 0 && takes[seat * CHOICES + choice] && stock[choice - 1] > 0;
        }

        private int gain(int seat, int choice) {
            return gains[seat * CHOICES + (canEat(seat, choice) ? choice : 0)];
        }

        private int mostFor(int seat) {
            int most = gain(seat, 0);
            for (int choice = 1; choice <= library.pages.many; choice++) {
                most = Math.max(most, gain(seat, choice));
            }
            return most;
        }

        private void choose(int seat, int choices) {
            if (seat >= many) {
                if (found == wanted) {
                    answer = choices;
                }
                found++;
                return;
            }
            int most = mostFor(seat);
            for (int choice = 0; choice <= library.pages.many; choice++) {
                if (gain(seat, choice) == most) {
                    int used = canEat(seat, choice) && library.kinds[choice - 1] != RECIPE ? 1 : 0;
                    move(choice, -used);
                    choose(seat + 1, choices * CHOICES + choice);
                    move(choice, used);
                }
            }
        }

        private void move(int choice, int by) {
            if (choice >= 1 && choice <= MOST_PAGES) {
                stock[choice - 1] += by;
            }
        }
    }

    /** Which PAGES to copy with some hands so that the most is kept when copies burn. */
    private static final class Hands {
        private static final long WHOLE = 1000000000L;

        private final int[] copies = new int[MOST_PAGES];
        private final long[] gone = new long[MOST_PAGES];
        private final int[] row = new int[MOST_HANDS];
        private Library library;
        private int many;
        private int kept;
        private int known;
        final int[] bestRow = new int[MOST_HANDS];
        int best;

        void look(Library library, Life life, int many) {
            this.library = library;
            this.many = many;
            known = life.knownToSome(library);
            kept = library.allFacts() & ~life.gone(library);
            for (int page = 0; page < MOST_PAGES; page++) {
                copies[page] = life.copies[page];
                burn(page);
            }
            best = NONE;
            choose(0, 0);
        }

        /** By how many billionths all copies of a page burn. */
        private void burn(int page) {
            gone[page] = WHOLE;
            for (int i = 0; i < copies[page]; i++) {
                gone[page] = gone[page] * library.burn / 10;
            }
        }

        /** Rows are walked from the first on, so of equal ones the first stays. */
        private void choose(int hand, int least) {
            if (hand >= many || hand >= MOST_HANDS) {
                int value = value();
                if (value > best) {
                    best = value;
                    System.arraycopy(row, 0, bestRow, 0, MOST_HANDS);
                }
                return;
            }
            for (int page = least; page < library.pages.many; page++) {
                if (copies[page] >= 1 && copies[page] < MOST_COPIES) {
                    row[hand] = page;
                    copies[page]++;
                    burn(page);
                    choose(hand + 1, page);
                    copies[page]--;
                    burn(page);
                }
            }
        }

        private int value() {
            long sum = 0;
            for (int fact = 0; fact < library.facts.many; fact++) {
                if ((kept >> fact & 1) != 0) {
                    sum += WHOLE - ((known >> fact & 1) != 0 ? 0 : lossOf(fact));
                }
            }
            return (int) (sum / 1000);
        }

        private long lossOf(int fact) {
            long loss = WHOLE;
            for (int page = 0; page < library.pages.many; page++) {
                boolean honest = (library.honest >> page & 1) != 0;
                if (honest && copies[page] > 0 && (library.says[page] >> fact & 1) != 0) {
                    loss = loss * gone[page] / WHOLE;
                }
            }
            return loss;
        }
    }
}
