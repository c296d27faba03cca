/** Promise 16: histories, judged. */
final class JudgedTest {
    private static final Check check = new Check();

    private static final String TEXT = "fact a;fact b;fact c;"
        + "page p true weigh 2 copies 1 says a;page q recipe weigh 3 copies 1 says b;page r true weigh 1 copies 8 says b;"
        + "page s lie weigh 1 copies 1 says c;"
        + "person ann room 5 die 0;person ben room 4 die 10 heir ann;bite 1;copy heavy;";

    public static void main(String[] args) {
        judge("", -1, -1, 4);
        judge("night;night;", -1, -1, 4);
        judge("eat ann p;", -1, -1, 4);
        judge("eat ann p;dies ann;", -1, 1, 5);
        judge("eat ben p;dies ben;", -1, -1, 4);
        judge("eat ben p;dies ben;dies ann;night;", -1, 2, 5);
        judge("dies ann;eat ben p;dies ben;", -1, 2, 5);
        judge("dies ann;dies ann;", 1, -1, 4);
        judge("eat ann p;eat ben p;", 1, -1, 4);
        judge("eat ann p;eat ann p;night;eat ann p;", 1, -1, 4);
        judge("eat ann q;eat ann p;eat ann r;", 2, -1, 4);
        judge("eat ann q;eat ann p;night;eat ann r;", -1, -1, 4);
        judge("bite ann ben p;", 0, -1, 4);
        judge("bite ann ann p;", 0, -1, 4);
        judge("eat ben p;bite ann ben p;dies ann;", -1, 2, 5);
        judge("eat ben p;eat ben r;bite ann ben r;", -1, 2, 5);
        judge("eat ben p;eat ben r;bite ann ben r;bite ann ben p;", 3, 2, 5);
        judge("eat ben p;copy p;", 1, -1, 4);
        judge("copy p;eat ben p;dies ben;dies ann;", -1, -1, 4);
        judge("copy r;copy r;", 1, -1, 4);
        judge("copy q;copy q;copy q;copy q;copy q;copy q;copy q;copy q;copy q;", 8, -1, 4);
        judge("dies ben;eat ben p;eat ann p;bite ann ben q;", 1, -1, 4);
        judge("eat ann s;dies ann;eat ann p;eat ben p;dies ben;dies ben;", 2, 4, 5);
        judge("eat ben p;eat ben r;bite ann ben r;bite ben ann r;dies ben;", -1, 2, 5);
        fromTheLibrary();
        check.end();
    }

    private static void judge(String history, int wrong, int loss, int lost) {
        EatKnown x = Check.of(TEXT);
        check.same("read " + history, Check.history(x, history), 0);
        check.same("judged 0 of " + history, x.judged(0), wrong);
        check.same("judged 1 of " + history, x.judged(1), loss);
        check.same("judged 2 of " + history, x.judged(2), lost);
        check.same("nothing by hand: eaten", x.person(0, 4) + x.person(1, 4), 0);
        check.same("nothing by hand: day", x.count(6), 0);
        check.same("nothing by hand: spent", x.count(7), 0);
        check.same("nothing by hand: alive", x.count(4), 2);
        check.same("nothing by hand: undo", x.count(11), 0);
    }

    private static void fromTheLibrary() {
        EatKnown x = Check.of(TEXT);
        Check.history(x, "eat ann p;");
        x.eat(1, 0);
        x.dies(0);
        x.days(2);
        check.same("what is done by hand does not count", x.judged(0), -1);
        check.same("others", x.judged(3), -2);
        check.same("others below", x.judged(-1), -2);
        check.same("others far", x.judged(Integer.MIN_VALUE), -2);
    }
}
