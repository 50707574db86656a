/** The promises one by one: ordinary inputs, the edges that the document names, and wrong inputs. */
public final class PromisesTest {
    private interface Call {
        double answer();
    }

    private static final Class<IndexOutOfBoundsException> INDEX = IndexOutOfBoundsException.class;
    private static final Class<IllegalArgumentException> ARGUMENT = IllegalArgumentException.class;
    private static final Class<IllegalStateException> STATE = IllegalStateException.class;
    private static final int LOW = Integer.MIN_VALUE;
    private static final int HIGH = Integer.MAX_VALUE;
    private static final String BASE = "registry 5 100;garden 3;";

    private static int promise;
    private static int checks;
    private static int wrong;

    public static void main(String[] args) {
        theNewObject();
        theInput();
        nothingIsLeftOfTheTextBefore();
        theErrors();
        theTokens();
        theOrderOfErrors();
        theCalendarAndStocks();
        theGardens();
        theChildren();
        theDates();
        theForecasts();
        theMeasures();
        theDays();
        theDraws();
        theBirthdays();
        theMoves();
        thePurchases();
        theHistory();
        theSavedStates();
        theOutput();
        theThrowingCallsAlterNothing();
        System.out.println(checks + " checks, " + wrong + " wrong");
        if (wrong != 0) {
            System.exit(1);
        }
    }

    private static void theNewObject() {
        InventedBirthdays x = new InventedBirthdays();
        promise(1);
        is("children", 3, x::childCount);
        is("gardens", 2, x::gardenCount);
        is("seats", 4, () -> x.seatsOf(0));
        is("seats", 2, () -> x.seatsOf(1));
        is("year", 0, x::year);
        is("date", 105, () -> x.month() * 100 + x.dayOfMonth());
        is("seed", 1574, x::seed);
        is("ada has blown", 5, () -> x.ageOf(0));
        is("ben is drawn", 134, () -> x.birthdayOf(1));
        is("cleo", 7, () -> x.ageOf(2));
        is("candles", 0, x::candles);
        is("cakes", 1, () -> x.cakes(3));
        is("held", 2, x::heldParties);
        is("failed", 0, x::failedParties);
        is("lit", 0, x::candleDifference);
        fails("nothing to undo", STATE, x::undo);
        fails("nothing saved", STATE, () -> x.restore(0));
        fails("nothing saved", STATE, () -> x.restore(1));
        fails("no output", INDEX, () -> x.outputByte(0));
        fails("no input", INDEX, () -> x.load(1));
        is("no error", 0, x::errorKind);
        is("no offset", -1, x::errorOffset);
        is("ada", "ada 5 1/5", x, x.writeChild(0));
        is("ben", "ben 1 5/15", x, x.writeChild(1));
        is("cleo", "cleo 7 1/5", x, x.writeChild(2));
        InventedBirthdays y = new InventedBirthdays();
        y.buyCandles(3);
        is("objects share nothing", 0, x::candles);
    }

    private static void theInput() {
        InventedBirthdays x = new InventedBirthdays();
        promise(2);
        is("big end first", 20, () -> x.append(0x72656769, 0x73747279, 0x20313233, 0x34203536, 0x37383B3B));
        promise(3);
        is("load the first 18 bytes", 0, () -> x.load(18));
        promise(9);
        is("seed of the text", 1234, x::seed);
        promise(11);
        is("candles of the text", 5678, x::candles);
        promise(3);
        fails("the buffer is empty after it", INDEX, () -> x.load(1));
        promise(2);
        for (int i = 1; i <= 30; i++) {
            int length = i * 20;
            is("append " + i, length, () -> x.append(0, 0, 0, 0, 0));
        }
        fails("600 bytes and more", STATE, () -> x.append(0, 0, 0, 0, 0));
        promise(3);
        fails("length too large", INDEX, () -> x.load(601));
        fails("length negative", INDEX, () -> x.load(-1));
        fails("length extreme", INDEX, () -> x.load(HIGH));
        fails("length extreme", INDEX, () -> x.load(LOW));
        promise(4);
        is("not touched by that", 0, x::errorKind);
        promise(3);
        fails("600 zero bytes", ARGUMENT, () -> x.load(600));
        promise(4);
        is("zero starts no token", 1, x::errorKind);
        promise(5);
        is("at the start", 0, x::errorOffset);
        promise(2);
        is("empty after an error too", 20, () -> x.append(-1, -1, -1, -1, -1));
        promise(3);
        fails("length 21 of 20", INDEX, () -> x.load(21));
        promise(5);
        is("the reported error stays", 0, x::errorOffset);
        promise(3);
        fails("no text at all", ARGUMENT, () -> x.load(0));
        is("a filled buffer is emptied", 20, () -> x.append(0, 0, 0, 0, 0));
        fails("no text at all", ARGUMENT, () -> x.load(0));
        String text = "registry 1 2" + " ".repeat(588);
        is("600 bytes", 0, () -> Loading.load(x, text));
        is("seed", 1, x::seed);
        is("lines", 2, () -> Loading.load(x, BASE + "child a 0 1 0 0;child b 5 20 99 0"));
        promise(21);
        is("99 at first", 99, () -> x.ageOf(1));
    }

    private static void nothingIsLeftOfTheTextBefore() {
        InventedBirthdays x = Loading.of("registry 8 60;garden 9;garden 9;child a 0 20 0 0;child b 1 20 0 1;child c 1 20 0 1;cakes 0 9;"
                + "birthday a 1 2;birthday b 1 2;birthday c 1 3;days 370;cakes 4 9");
        x.buyCandles(5);
        x.advance(720);
        x.advance(720);
        promise(3);
        is("fewer children", 1, () -> Loading.load(x, "registry 1 2;garden 1;child d 3 4 5 0"));
        promise(17);
        is("no party", -1, () -> x.partyIn(0, 1, 2));
        promise(34);
        is("only garden 0", 0, () -> x.freeGarden(0, 1, 2));
        promise(3);
        fails("the old names are unknown", ARGUMENT, () -> Loading.load(x, "registry 1 2;garden 1;child d 3 4 5 0;draw b"));
        promise(4);
        is("unknown", 3, x::errorKind);
        promise(38);
        is("no party was held", 0, x::heldParties);
        promise(39);
        is("no party failed", 0, x::failedParties);
        promise(43);
        is("no wish was granted", 0, x::wishShare);
        promise(26);
        is("no wish was granted", 0, () -> x.wishesOf(0));
        promise(25);
        is("no party was held", 0, () -> x.partiesOf(0));
        promise(12);
        is("no cakes", 0, () -> x.cakes(0) + x.cakes(4));
        promise(41);
        is("no candle was bought or lit", 0, x::candleDifference);
        promise(6);
        is("the year", 0, x::year);
        promise(8);
        is("the day", 1, x::dayOfMonth);
    }

    private static void theErrors() {
        String child = BASE + "child ab 2 3 4 0;";
        int line = child.length();
        error("", 1, 0);
        error("   ", 1, 3);
        error("registr 1 2", 1, 0);
        error("registryy 1 2", 1, 0);
        error("7 registry", 1, 0);
        error("registry", 1, 8);
        error("registry ", 1, 9);
        error("registry 1", 1, 10);
        error("registry a 1", 1, 9);
        error("registry 9973 1", 2, 9);
        good("registry 9972 9999");
        error("registry 1 10000", 1, 11);
        error("registry 00001 1", 1, 9);
        good("registry 0001 0000");
        error("registry 1 2 3", 1, 13);
        error("registry 1 2 garden 3", 1, 13);
        error("registry 1 2;", 1, 13);
        error("registry 1 2; ", 1, 14);
        error("registry 1 2;;", 1, 13);
        error("registry 1 2;5", 1, 13);
        error("registry 1 2;gardens 3", 1, 13);
        error("registry 1 2;registry 1 2", 1, 13);
        error("registry 1 2;garden 0", 2, 20);
        error("registry 1 2;garden 13", 2, 20);
        good("registry 1 2;garden 1;garden 12;garden 5;garden 6");
        error("registry 1 2;garden 1;garden 1;garden 1;garden 1;garden 1", 5, 49);
        error("registry 1 2;garden 1;garden 1;garden 1;garden 1;garden", 5, 49);
        error("registry 1 2;garden", 1, 19);
        error("registry 1 2;child a 1 1 1 0", 2, 27);
        error(child + "child ab 1 1 1 0", 4, line + 6);
        good(child + "child aba 1 1 1 0;child a 1 1 1 0;child b 1 1 1 0");
        good(child + "child garden 1 1 1 0;child days 1 1 1 0;draw garden;draw days");
        good(child + "child zzzzzz 0 1 0 0;draw zzzzzz");
        error(child + "child zzzzzzz 0 1 0 0", 1, line + 6);
        error(child + "child 1 0 1 0 0", 1, line + 6);
        error(child + "child x 6 1 0 0", 2, line + 8);
        error(child + "child x 0 0 0 0", 2, line + 10);
        error(child + "child x 0 21 0 0", 2, line + 10);
        error(child + "child x 0 1 100 0", 2, line + 12);
        error(child + "child x 0 1 0 1", 2, line + 14);
        error(child + "child x 0 1 0 1;garden 3", 2, line + 14);
        good(child + "garden 3;child x 0 20 99 1");
        error(child + "birthday b 1 1", 3, line + 9);
        error(child + "birthday abc 1 1", 3, line + 9);
        error(child + "birthday abcdefg 1 1", 1, line + 9);
        error(child + "birthday ab 0 1", 2, line + 12);
        error(child + "birthday ab 13 1", 2, line + 12);
        error(child + "birthday ab 12 0", 2, line + 15);
        error(child + "birthday ab 12 31", 2, line + 15);
        good(child + "birthday ab 12 30;birthday ab 12 30;birthday ab 1 1");
        error(child + "draw b", 3, line + 5);
        error(child + "draw", 1, line + 4);
        error(child + "draw ab 5", 1, line + 8);
        error(child + "cakes 6 1", 2, line + 6);
        error(child + "cakes 0 0", 2, line + 8);
        error(child + "cakes 0 100", 2, line + 8);
        error(child + "cakes 0 99;cakes 0 1", 2, line + 19);
        good(child + "cakes 0 99;cakes 1 99;cakes 5 98;cakes 5 1");
        error(child + "days 0", 2, line + 5);
        error(child + "days 721", 2, line + 5);
        error(child + "days -1", 1, line + 5);
        good(child + "days 1;days 720");
        String years = "days 720;".repeat(49);
        good("registry 0 0;" + years + "days 360;days 359");
        error("registry 0 0;" + years + "days 360;days 360", 2, 13 + 441 + 14);
        error("registry 0 0;" + years + "days 720", 2, 13 + 441 + 5);
        String two = "registry 0 0;garden 2;child a 0 1 0 0;child b 0 1 0 0;birthday a 1 2;";
        error(two + "birthday b 1 2", 6, two.length() + 13);
        error(two + "birthday b 1 2;x", 6, two.length() + 13);
        good(two + "birthday b 1 3");
        String full = "registry 0 0;garden 1;child a 0 1 0 0;child b 0 1 0 0;";
        error(full + "birthday b 1 2", 6, full.length() + 13);
        error(full + "draw b", 6, full.length() + 5);
        String ten = "registry 0 0;garden 9";
        for (char name = 'a'; name <= 'j'; name++) {
            ten += ";child " + name + " 0 1 0 0";
        }
        good(ten);
        error(ten + ";child k 0 1 0 0", 5, ten.length() + 1);
        error(ten + ";child a 0 1 0 0", 5, ten.length() + 1);
    }

    private static void theTokens() {
        good("\n registry\n1\n\n2 ; garden 3;child a 1 1 1 0 ;\ncakes 1 1\n");
        error("registry1 2", 1, 8);
        error("registry 1a 2", 1, 10);
        error("registry 1 2a", 1, 12);
        error("registry 1 2;garden3", 1, 19);
        error("registry 1 2;garden 3x", 1, 21);
        error("registry 1 2;garden 3;child a1 1 1 0", 1, 29);
        error("registry 1 2;garden 3;child a 1 1 1 0;draw a1", 1, 44);
        error("Registry 1 2", 1, 0);
        error("registrY 1 2", 1, 0);
        error("registry\t1 2", 1, 8);
        error("registry 1\r2", 1, 10);
        error("registry 1 2#", 1, 12);
        error("registry 1 2\u00e4", 1, 12);
        error("registry 1 2`", 1, 12);
        error("registry 1 2{", 1, 12);
        error("registry 1 2/", 1, 12);
        error("registry 1 2:", 1, 12);
        error("registry 1 2;\0", 1, 13);
        error("registry;1 2", 1, 8);
        error("registry 99999999999999999999 1", 1, 9);
        error("registry 4294967297 1", 1, 9);
    }

    private static void theOrderOfErrors() {
        error("registry 9973 99999;x", 2, 9);
        error("registry 9973x", 2, 9);
        error("registry 1 2;garden 13x", 2, 20);
        error("registry 1 2;garden 99999", 1, 20);
        error("registry 1 2;garden 9;child toolong 9 9 9 9", 1, 28);
        error("registry 1 2;garden 1;child a 0 1 0 0;child b 0 1 0 0;birthday a 1 31", 2, 67);
        error("registry 1 2;garden 1;child a 0 1 0 0;child b 0 1 0 0;birthday a 1 1x", 6, 67);
        error("registry 1 2;garden 1;child a 0 1 0 0;child b 0 1 0 0;draw a;draw", 6, 59);
        InventedBirthdays x = new InventedBirthdays();
        promise(4);
        fails("an error", ARGUMENT, () -> Loading.load(x, "registry 1"));
        is("kind", 1, x::errorKind);
        promise(5);
        is("offset", 10, x::errorOffset);
        fails("the next error", ARGUMENT, () -> Loading.load(x, "registry 9999 1"));
        is("offset", 9, x::errorOffset);
        promise(4);
        is("kind", 2, x::errorKind);
        is("undo leaves the error", 2, () -> {
            x.buyCandles(1);
            x.undo();
            return x.errorKind();
        });
        is("a good text", 0, () -> Loading.load(x, "registry 1 1"));
        is("kind", 0, x::errorKind);
        promise(5);
        is("offset", -1, x::errorOffset);
    }

    private static void theCalendarAndStocks() {
        InventedBirthdays x = Loading.of("registry 0 9999;garden 2;cakes 0 1;cakes 5 99;child a 4 1 0 0;child b 1 1 0 0");
        promise(6);
        is("year", 0, x::year);
        promise(7);
        is("month", 1, x::month);
        promise(8);
        is("day", 1, x::dayOfMonth);
        promise(9);
        is("seed", 0, x::seed);
        promise(10);
        is("97", 97, x::nextDraw);
        is("seed 9972", (9972 * 211 + 97) % 9973 % 360, Loading.of("registry 9972 0")::nextDraw);
        promise(11);
        is("candles", 9999, x::candles);
        promise(12);
        is("kind 0", 1, () -> x.cakes(0));
        is("kind 1", 0, () -> x.cakes(1));
        is("kind 5", 99, () -> x.cakes(5));
        for (int kind : new int[] {-1, 6, LOW, HIGH}) {
            fails("kind " + kind, ARGUMENT, () -> x.cakes(kind));
        }
        promise(13);
        is("a tie", 1, x::mostWantedCake);
        is("none", 0, Loading.of("registry 0 0;garden 1;cakes 3 3")::mostWantedCake);
        is("most", 5, Loading.of(BASE + "child a 0 1 0 0;child b 5 1 0 0;child c 5 1 0 0")::mostWantedCake);
        promise(7);
        x.advance(29);
        is("1/30", 1, x::month);
        promise(8);
        is("1/30", 30, x::dayOfMonth);
        x.advance(1);
        is("2/1", 1, x::dayOfMonth);
        promise(7);
        is("2/1", 2, x::month);
        x.advance(329);
        is("12/30", 12, x::month);
        promise(8);
        is("12/30", 30, x::dayOfMonth);
        promise(6);
        is("12/30", 0, x::year);
        x.advance(1);
        is("the next year", 1, x::year);
        promise(7);
        is("the next year", 1, x::month);
        promise(8);
        is("the next year", 1, x::dayOfMonth);
    }

    private static void theGardens() {
        InventedBirthdays x = Loading.of("registry 0 0;garden 1;garden 12;garden 7;child a 0 1 0 1;child b 1 1 0 2;child c 2 1 0 1;"
                + "birthday a 3 4;birthday b 3 4;birthday c 12 30");
        promise(14);
        is("three", 3, x::gardenCount);
        is("none", 0, Loading.of("registry 0 0")::gardenCount);
        promise(15);
        is("seats", 1, () -> x.seatsOf(0));
        is("seats", 12, () -> x.seatsOf(1));
        is("seats", 7, () -> x.seatsOf(2));
        promise(16);
        is("children", 0, () -> x.childrenOf(0));
        is("children", 2, () -> x.childrenOf(1));
        is("children", 1, () -> x.childrenOf(2));
        promise(17);
        is("3/4", 0, () -> x.partyIn(1, 3, 4));
        is("3/4", 1, () -> x.partyIn(2, 3, 4));
        is("3/4", -1, () -> x.partyIn(0, 3, 4));
        is("12/30", 2, () -> x.partyIn(1, 12, 30));
        is("1/1", -1, () -> x.partyIn(1, 1, 1));
        for (int garden : new int[] {-1, 3, LOW, HIGH}) {
            promise(15);
            fails("garden " + garden, INDEX, () -> x.seatsOf(garden));
            promise(16);
            fails("garden " + garden, INDEX, () -> x.childrenOf(garden));
            promise(17);
            fails("garden " + garden, INDEX, () -> x.partyIn(garden, 1, 1));
            fails("garden first " + garden, INDEX, () -> x.partyIn(garden, 0, 0));
        }
        wrongDates((month, day) -> x.partyIn(0, month, day));
        InventedBirthdays none = Loading.of("registry 0 0");
        fails("no garden", INDEX, () -> none.partyIn(0, 1, 1));
    }

    private interface DateCall {
        int answer(int month, int day);
    }

    private static void wrongDates(DateCall call) {
        int[][] dates = {{0, 1}, {13, 1}, {1, 0}, {1, 31}, {-1, 5}, {5, -1}, {LOW, LOW}, {HIGH, HIGH}, {2, HIGH}, {0, 31}};
        for (int[] date : dates) {
            fails("date " + date[0] + "/" + date[1], ARGUMENT, () -> call.answer(date[0], date[1]));
        }
    }

    private static void theChildren() {
        InventedBirthdays x = Loading.of("registry 7 50;garden 2;garden 9;child a 5 20 99 1;child b 0 1 0 0;child c 5 7 3 1;child d 5 3 3 1;"
                + "cakes 5 2;birthday a 1 2;birthday c 12 30;days 1");
        promise(18);
        is("four", 4, x::childCount);
        is("none", 0, Loading.of("registry 0 0")::childCount);
        promise(19);
        is("5", 5, () -> x.cakeOf(0));
        is("0", 0, () -> x.cakeOf(1));
        promise(20);
        is("20", 20, () -> x.breathOf(0));
        is("3", 3, () -> x.breathOf(3));
        promise(21);
        is("the age grows beyond 99", 100, () -> x.ageOf(0));
        is("0", 0, () -> x.ageOf(1));
        promise(22);
        is("garden 1", 1, () -> x.gardenOf(0));
        is("garden 0", 0, () -> x.gardenOf(1));
        promise(23);
        is("1/2", 1, () -> x.birthdayOf(0));
        is("none", -1, () -> x.birthdayOf(1));
        is("12/30", 359, () -> x.birthdayOf(2));
        promise(24);
        is("today", 360, () -> x.daysUntilBirthday(0));
        is("none", -1, () -> x.daysUntilBirthday(1));
        is("12/30", 358, () -> x.daysUntilBirthday(2));
        promise(25);
        is("one party", 1, () -> x.partiesOf(0));
        is("no party", 0, () -> x.partiesOf(2));
        promise(26);
        is("only 50 candles for 100", 0, () -> x.wishesOf(0));
        promise(27);
        is("two guests", 22, () -> x.strengthOf(0));
        is("no guest", 1, () -> x.strengthOf(1));
        is("two guests", 9, () -> x.strengthOf(2));
        InventedBirthdays many = Loading.of("registry 0 0;garden 2;garden 1;garden 3;child a 0 1 0 0;child b 0 5 0 1;child c 0 9 0 2;child d 0 2 0 0");
        is("one seat for guests", 2, () -> many.strengthOf(0));
        is("no seat for guests", 5, () -> many.strengthOf(1));
        is("two seats for guests", 11, () -> many.strengthOf(2));
        promise(28);
        is("c", 2, x::nextChild);
        x.advance(358);
        is("a, c has it today", 0, x::nextChild);
        x.setBirthday(1, 1, 2);
        is("a tie", 0, x::nextChild);
        is("none", -1, Loading.of(BASE + "child a 0 1 0 0")::nextChild);
        is("only today", 1, Loading.of(BASE + "child a 0 1 0 0;child b 0 1 0 0;birthday b 1 1")::nextChild);
        for (int child : new int[] {-1, 4, 10, LOW, HIGH}) {
            wrongChild(x, child);
        }
        wrongChild(Loading.of("registry 0 0"), 0);
    }

    private static void wrongChild(InventedBirthdays x, int child) {
        String what = "child " + child;
        promise(19);
        fails(what, INDEX, () -> x.cakeOf(child));
        promise(20);
        fails(what, INDEX, () -> x.breathOf(child));
        promise(21);
        fails(what, INDEX, () -> x.ageOf(child));
        promise(22);
        fails(what, INDEX, () -> x.gardenOf(child));
        promise(23);
        fails(what, INDEX, () -> x.birthdayOf(child));
        promise(24);
        fails(what, INDEX, () -> x.daysUntilBirthday(child));
        promise(25);
        fails(what, INDEX, () -> x.partiesOf(child));
        promise(26);
        fails(what, INDEX, () -> x.wishesOf(child));
        promise(27);
        fails(what, INDEX, () -> x.strengthOf(child));
        promise(33);
        fails(what, INDEX, () -> x.obstacle(child, 0, 0, 0));
        promise(34);
        fails(what, INDEX, () -> x.freeGarden(child, 0, 0));
        promise(35);
        fails(what, INDEX, () -> x.drawsNeeded(child));
        promise(37);
        fails(what, INDEX, () -> x.wishesAfter(child, 0));
        fails(what + " first", INDEX, () -> x.wishesAfter(child, -1));
        promise(45);
        fails(what, INDEX, () -> x.draw(child));
        promise(46);
        fails(what, INDEX, () -> x.setBirthday(child, 0, 0));
        promise(47);
        fails(what, INDEX, () -> x.forgetBirthday(child));
        promise(48);
        fails(what, INDEX, () -> x.moveTo(child, 0));
        promise(54);
        fails(what, INDEX, () -> x.writeChild(child));
    }

    private static void theDates() {
        InventedBirthdays x = Loading.of("registry 0 0;garden 9;garden 2;garden 1;child a 0 1 0 0;child b 1 1 0 0;child c 1 1 0 1;child d 0 1 0 1;child e 2 1 0 2;"
                + "birthday b 6 1;birthday c 2 30;birthday d 6 1;birthday e 1 1");
        promise(29);
        is("6/1", 2, () -> x.childrenOn(6, 1));
        is("2/30", 1, () -> x.childrenOn(2, 30));
        is("3/1", 0, () -> x.childrenOn(3, 1));
        wrongDates(x::childrenOn);
        promise(30);
        is("three", 3, x::differentDates);
        is("none", 0, Loading.of("registry 0 0")::differentDates);
        is("all on one date", 1, Loading.of(BASE + "garden 3;child a 0 1 0 0;child b 0 1 0 1;birthday a 1 1;birthday b 1 1")::differentDates);
        promise(31);
        InventedBirthdays pair = Loading.of(BASE + "garden 3;child a 0 1 0 0;child b 0 1 0 1;child c 0 1 0 1;birthday a 1 1;birthday b 1 1;birthday c 1 2");
        is("the first child", 0, () -> pair.dateAt(0));
        is("b has that of a", 1, () -> pair.dateAt(1));
        fails("two dates", INDEX, () -> pair.dateAt(2));
        is("b", 150, () -> x.dateAt(0));
        is("c", 59, () -> x.dateAt(1));
        is("e", 0, () -> x.dateAt(2));
        for (int index : new int[] {-1, 3, LOW, HIGH}) {
            fails("index " + index, INDEX, () -> x.dateAt(index));
        }
        fails("no child", INDEX, () -> Loading.of("registry 0 0").dateAt(0));
        promise(32);
        is("two on one date count twice", 6, x::busiestMonth);
        is("a tie", 2, Loading.of(BASE + "child a 0 1 0 0;child b 0 1 0 0;birthday a 12 30;birthday b 2 1")::busiestMonth);
        is("none", -1, Loading.of(BASE + "child a 0 1 0 0")::busiestMonth);
        is("the first", 1, Loading.of(BASE + "child a 0 1 0 0;birthday a 1 30")::busiestMonth);
        is("the last", 12, Loading.of(BASE + "child a 0 1 0 0;birthday a 12 1")::busiestMonth);
        promise(33);
        is("b is there", 1, () -> x.obstacle(0, 0, 6, 1));
        is("b itself", 0, () -> x.obstacle(1, 0, 6, 1));
        is("d is there", 1, () -> x.obstacle(0, 1, 6, 1));
        is("free", 0, () -> x.obstacle(0, 1, 6, 2));
        is("two seats are enough", 0, () -> x.obstacle(2, 1, 6, 2));
        is("one seat is not", 2, () -> x.obstacle(2, 2, 6, 2));
        is("one seat is enough for e", 0, () -> x.obstacle(4, 2, 6, 2));
        is("both reasons", 1, () -> x.obstacle(2, 2, 1, 1));
        wrongDates((month, day) -> x.obstacle(0, 0, month, day));
        for (int garden : new int[] {-1, 3, LOW, HIGH}) {
            fails("garden " + garden, INDEX, () -> x.obstacle(0, garden, 1, 1));
            fails("garden first " + garden, INDEX, () -> x.obstacle(0, garden, 0, 0));
        }
        promise(34);
        is("0 and 1 are taken, 2 too small", -1, () -> x.freeGarden(0, 6, 1));
        is("2 has a seat for e", 2, () -> x.freeGarden(4, 6, 1));
        is("its own", 0, () -> x.freeGarden(1, 6, 1));
        is("not its own, the smallest", 0, () -> x.freeGarden(3, 6, 2));
        is("free", 0, () -> x.freeGarden(0, 12, 30));
        is("the second", 1, Loading.of("registry 0 0;garden 1;garden 2;child a 0 1 0 0;child b 0 1 0 0"), y -> y.freeGarden(1, 1, 1));
        wrongDates((month, day) -> x.freeGarden(0, month, day));
    }

    private interface ObjectCall {
        double answer(InventedBirthdays x);
    }

    private static void is(String what, double want, InventedBirthdays x, ObjectCall call) {
        is(what, want, () -> call.answer(x));
    }

    private static void theForecasts() {
        InventedBirthdays x = Loading.of("registry 0 30;garden 3;child a 0 20 4 0;child b 1 1 5 0;cakes 0 4;birthday a 1 3;birthday b 2 1");
        promise(36);
        int[] days = {0, 1, 2, 29, 30, 361, 362, 390, 720};
        int[] left = {30, 30, 25, 25, 19, 19, 13, 6, 6};
        for (int i = 0; i < days.length; i++) {
            int number = days[i];
            is("candles after " + number, left[i], () -> x.candlesAfter(number));
        }
        promise(37);
        int[] wishes = {0, 0, 1, 1, 1, 1, 2, 2, 2};
        for (int i = 0; i < days.length; i++) {
            int number = days[i];
            is("wishes of a after " + number, wishes[i], () -> x.wishesAfter(0, number));
            is("wishes of b after " + number, 0, () -> x.wishesAfter(1, number));
        }
        for (int wrongDays : new int[] {-1, 721, LOW, HIGH}) {
            promise(36);
            fails("days " + wrongDays, ARGUMENT, () -> x.candlesAfter(wrongDays));
            promise(37);
            fails("days " + wrongDays, ARGUMENT, () -> x.wishesAfter(0, wrongDays));
        }
        promise(36);
        is("nothing changes", 30, x::candles);
        is("nothing changes", 0, x::year);
        is("nothing changes", 4, () -> x.ageOf(0));
        fails("it is no change", STATE, x::undo);
        InventedBirthdays last = Loading.atTheLastDay("garden 3;child a 0 20 4 0;birthday a 1 1;");
        last.bakeCakes(0, 9);
        last.buyCandles(999);
        int age = last.ageOf(0);
        is("beyond the year 99", 999 - age - 1, () -> last.candlesAfter(1));
        is("beyond the year 99", 999 - age - 1 - age - 2, () -> last.candlesAfter(720));
        is("the year stays", 99, last::year);
        InventedBirthdays wish = Loading.atTheLastDay("garden 3;child a 0 20 4 0;");
        wish.setBirthday(0, 1, 1);
        wish.bakeCakes(0, 9);
        wish.buyCandles(999);
        promise(37);
        is("beyond the year 99", 1, () -> wish.wishesAfter(0, 1));
        is("beyond the year 99", 2, () -> wish.wishesAfter(0, 361));
    }

    private static void theMeasures() {
        InventedBirthdays x = Loading.of("registry 0 30;garden 3;garden 3;child a 0 20 4 0;child b 1 1 5 1;child c 1 1 7 1;cakes 0 2;birthday a 1 2;birthday b 1 2;birthday c 1 3");
        promise(42);
        is("16 by 3", 16.0 / 3.0, x::meanAge);
        is("none", 0.0, Loading.of("registry 0 0")::meanAge);
        promise(43);
        is("none held", 0.0, x::wishShare);
        x.advance(2);
        promise(38);
        is("two", 2, x::heldParties);
        promise(39);
        is("one", 1, x::failedParties);
        promise(40);
        is("none", 0, x::clashes);
        promise(41);
        is("none", 0, x::candleDifference);
        promise(42);
        is("19 by 3", 19.0 / 3.0, x::meanAge);
        promise(43);
        is("one of two", 0.5, x::wishShare);
        x.bakeCakes(0, 1);
        x.setBirthday(2, 1, 4);
        x.advance(1);
        is("one of three", 1.0f / 3.0f, x::wishShare);
        promise(41);
        x.buyCandles(77);
        is("bought", 0, x::candleDifference);
        x.undo();
        is("undone", 0, x::candleDifference);
        promise(40);
        is("two gardens, one date", 0, x::clashes);
        x.undo();
        x.undo();
        x.undo();
        promise(38);
        is("undone", 2, x::heldParties);
        x.undo();
        is("undone", 0, x::heldParties);
        promise(39);
        is("undone", 0, x::failedParties);
    }

    private static void theDays() {
        promise(44);
        InventedBirthdays x = Loading.of("registry 0 7;garden 2;garden 9;child a 4 1 0 1;child b 0 2 0 1;child c 0 9 5 0;child d 1 9 0 1;"
                + "cakes 0 1;cakes 1 2;birthday a 1 2;birthday b 1 3;birthday c 1 3");
        is("a takes kind 0 as 4 and 5 are out", 1, () -> x.advance(1));
        is("kind 0", 0, () -> x.cakes(0));
        is("one candle", 6, x::candles);
        promise(26);
        is("guests b and c", 1, () -> x.wishesOf(0));
        promise(44);
        is("b and c take kind 1", 2, () -> x.advance(1));
        is("kind 1", 0, () -> x.cakes(1));
        is("b by its number first", 0, x::candles);
        is("b: 1 candle, 2 + 1", 1, () -> x.wishesOf(1));
        is("c: 5 of 6 candles", 0, () -> x.wishesOf(2));
        is("the age grows", 6, () -> x.ageOf(2));
        is("a year later no cake", 0, () -> x.advance(360));
        promise(39);
        is("three failed", 3, x::failedParties);
        promise(21);
        is("the age grows though the party fails", 7, () -> x.ageOf(2));
        promise(25);
        is("no party", 1, () -> x.partiesOf(2));
        promise(44);
        for (int days : new int[] {0, -1, 721, LOW, HIGH}) {
            fails("days " + days, ARGUMENT, () -> x.advance(days));
        }
        InventedBirthdays tight = Loading.of("registry 0 99;garden 9;cakes 0 9;child a 0 2 3 0;child b 0 1 3 0;child c 1 1 0 0;birthday a 1 2;birthday b 1 3");
        tight.advance(2);
        promise(26);
        is("2 + 1 for 4", 0, () -> tight.wishesOf(0));
        InventedBirthdays same = Loading.of("registry 0 99;garden 9;cakes 0 9;child a 0 2 2 0;child b 0 1 3 0;child c 1 1 0 0;birthday a 1 2;birthday b 1 3");
        same.advance(2);
        is("2 + 1 for 3", 1, () -> same.wishesOf(0));
        is("1 + 1 for 4", 0, () -> same.wishesOf(1));
        InventedBirthdays seats = Loading.of("registry 0 99;garden 2;cakes 0 9;child a 1 2 3 0;child b 0 1 3 0;child c 0 1 0 0;birthday a 1 2;days 1");
        is("2 + 1, the garden seats one guest, for 4", 0, () -> seats.wishesOf(0));
        InventedBirthdays young = Loading.of("registry 0 0;garden 2;cakes 0 1;child a 0 20 0 0;birthday a 1 2;days 1");
        is("no candle at all", 0, () -> young.wishesOf(0));
        is("but a party", 1, () -> young.partiesOf(0));
        promise(44);
        InventedBirthdays first = Loading.of("registry 0 9;garden 2;cakes 0 9;child a 0 20 0 0;birthday a 1 1;days 359");
        is("the first day does not count", 0, first::heldParties);
        is("1/1", 1, () -> first.advance(1));
        is("1/2", 0, () -> first.advance(359));
        is("twice", 2, () -> first.advance(720));
        InventedBirthdays last = Loading.atTheLastDay("");
        promise(6);
        is("99", 99, last::year);
        promise(44);
        fails("the year would be 100", STATE, () -> last.advance(1));
        fails("days first", ARGUMENT, () -> last.advance(721));
        last.undo();
        fails("the year would be 100", STATE, () -> last.advance(361));
        is("12/30 of 99", 0, () -> last.advance(360));
    }

    private static void theDraws() {
        promise(35);
        InventedBirthdays x = Loading.of("registry 0 0;garden 3;garden 3;child a 0 1 0 0;child b 0 1 0 0;child c 0 1 0 1;birthday a 4 8");
        int second = (97 * 211 + 97) % 9973;
        is("a may have its own date again", 1, () -> x.drawsNeeded(0));
        is("97 is taken", 2, () -> x.drawsNeeded(1));
        is("not in garden 1", 1, () -> x.drawsNeeded(2));
        is("nothing changes", 0, x::seed);
        promise(45);
        is("two draws", 2, () -> x.draw(1));
        promise(9);
        is("two draws", second, x::seed);
        promise(23);
        is("two draws", second % 360, () -> x.birthdayOf(1));
        promise(45);
        int third = (second * 211 + 97) % 9973;
        is("it had one before", 1, () -> x.draw(1));
        is("another", third % 360, () -> x.birthdayOf(1));
        String nine = "garden 12;child z 1 1 0 0";
        int drawn = 9470;
        String birthdays = "";
        for (int i = 1; i <= 11; i++) {
            drawn = (drawn * 211 + 97) % 9973;
            String date = " " + (drawn % 360 / 30 + 1) + " " + (drawn % 30 + 1);
            if (!birthdays.contains(date + ";")) {
                char name = (char) ('a' + birthdays.chars().filter(sign -> sign == ';').count());
                nine += ";child " + name + " 0 1 0 0";
                birthdays += "birthday " + name + date + ";";
            }
        }
        InventedBirthdays long12 = Loading.of("registry 9470 0;" + nine + ";" + birthdays.substring(0, birthdays.length() - 1));
        is("nine dates are taken, two of them twice drawn", 12, () -> long12.drawsNeeded(0));
        promise(45);
        is("twelve", 12, () -> long12.draw(0));
        InventedBirthdays always = Loading.of("registry 5176 0;garden 3;child a 0 1 0 0;child b 0 1 0 0;birthday a 5 17");
        is("this seed draws itself", (5176 * 211 + 97) % 9973, always::seed);
        fails("20 dates are not enough", STATE, () -> always.draw(1));
        promise(35);
        is("20 dates are not enough", -1, () -> always.drawsNeeded(1));
        InventedBirthdays full = Loading.of("registry 11 0;garden 1;garden 2;child a 0 1 0 0;child b 0 1 0 1;birthday b 1 1");
        promise(35);
        is("too small", -1, () -> full.drawsNeeded(0));
        is("large enough", 1, () -> full.drawsNeeded(1));
        promise(45);
        fails("too small", STATE, () -> full.draw(0));
        is("the seed stays", 11, full::seed);
        fails("it is no change", STATE, full::undo);
        is("in the text", (11 * 211 + 97) % 9973, Loading.of("registry 11 0;garden 1;child a 0 1 0 0;draw a")::seed);
    }

    private static void theBirthdays() {
        InventedBirthdays x = Loading.of("registry 0 0;garden 3;garden 1;child a 0 1 0 0;child b 0 1 0 0;child c 0 1 0 1;days 10");
        promise(46);
        is("tomorrow", 1, () -> x.setBirthday(0, 1, 12));
        is("today", 360, () -> x.setBirthday(0, 1, 11));
        is("yesterday", 359, () -> x.setBirthday(0, 1, 10));
        is("12/30", 349, () -> x.setBirthday(0, 12, 30));
        fails("a has it", STATE, () -> x.setBirthday(1, 12, 30));
        fails("too few seats", STATE, () -> x.setBirthday(2, 12, 29));
        is("the same again", 349, () -> x.setBirthday(0, 12, 30));
        wrongDates((month, day) -> x.setBirthday(2, month, day));
        promise(24);
        is("12/30", 349, () -> x.daysUntilBirthday(0));
        promise(47);
        is("12/30", 359, () -> x.forgetBirthday(0));
        is("none", -1, () -> x.forgetBirthday(0));
        promise(23);
        is("none", -1, () -> x.birthdayOf(0));
        promise(46);
        is("free now", 349, () -> x.setBirthday(1, 12, 30));
    }

    private static void theMoves() {
        InventedBirthdays x = Loading.of("registry 0 0;garden 3;garden 1;garden 2;child a 0 1 0 0;child b 0 1 0 0;child c 3 1 0 1;birthday a 1 5;birthday c 1 5");
        promise(48);
        is("b has no birthday", 0, () -> x.moveTo(1, 1));
        is("back", 1, () -> x.moveTo(1, 0));
        fails("too few seats for a", STATE, () -> x.moveTo(0, 1));
        is("the same garden", 0, () -> x.moveTo(0, 0));
        is("garden 2", 0, () -> x.moveTo(0, 2));
        fails("a has this date there", STATE, () -> x.moveTo(2, 2));
        is("garden 0", 1, () -> x.moveTo(2, 0));
        promise(22);
        is("garden 0", 0, () -> x.gardenOf(2));
        promise(48);
        for (int garden : new int[] {-1, 3, LOW, HIGH}) {
            fails("garden " + garden, INDEX, () -> x.moveTo(0, garden));
        }
        InventedBirthdays grown = Loading.of("registry 0 0;garden 1;child a 0 1 0 0;birthday a 1 5;child b 0 1 0 0");
        fails("its own garden is too small by now", STATE, () -> grown.moveTo(0, 0));
    }

    private static void thePurchases() {
        InventedBirthdays x = Loading.of("registry 0 9000;cakes 3 98");
        promise(49);
        is("one", 9001, () -> x.buyCandles(1));
        fails("10000", STATE, () -> x.buyCandles(999));
        is("9999", 9999, () -> x.buyCandles(998));
        fails("10000", STATE, () -> x.buyCandles(1));
        for (int number : new int[] {0, -1, 1000, LOW, HIGH}) {
            fails("number " + number, ARGUMENT, () -> x.buyCandles(number));
        }
        is("many", 999, Loading.of("registry 0 0"), y -> y.buyCandles(999));
        promise(50);
        is("99", 99, () -> x.bakeCakes(3, 1));
        fails("100", STATE, () -> x.bakeCakes(3, 1));
        is("99", 99, () -> x.bakeCakes(0, 99));
        is("5", 5, () -> x.bakeCakes(5, 5));
        for (int number : new int[] {0, -1, 100, LOW, HIGH}) {
            fails("number " + number, ARGUMENT, () -> x.bakeCakes(3, number));
        }
        for (int kind : new int[] {-1, 6, LOW, HIGH}) {
            fails("kind " + kind, ARGUMENT, () -> x.bakeCakes(kind, 1));
        }
    }

    private static void theHistory() {
        InventedBirthdays x = Loading.of("registry 0 0;garden 3;child a 0 1 0 0;cakes 0 1;birthday a 1 5;draw a");
        promise(52);
        fails("a text is no change", STATE, x::undo);
        for (int i = 1; i <= 12; i++) {
            x.buyCandles(i);
        }
        for (int i = 12; i >= 3; i--) {
            int before = i * (i - 1) / 2;
            int left = i - 3;
            is("undo " + i, left, x::undo);
            is("candles before " + i, before, x::candles);
        }
        fails("ten are undone", STATE, x::undo);
        is("two stay", 3, x::candles);
        x.buyCandles(1);
        x.buyCandles(1);
        is("one left", 1, x::undo);
        x.buyCandles(5);
        is("one left", 1, x::undo);
        is("candles", 4, x::candles);
        is("none left", 0, x::undo);
        x.forgetBirthday(0);
        x.forgetBirthday(0);
        x.moveTo(0, 0);
        is("changes that alter nothing are recorded", 2, x::undo);
        is("the same", 1, x::undo);
        is("the same", 0, x::undo);
        x.setBirthday(0, 1, 2);
        x.advance(3);
        x.draw(0);
        x.bakeCakes(1, 1);
        x.moveTo(0, 0);
        is("moveTo", 4, x::undo);
        is("bakeCakes", 3, x::undo);
        is("cakes", 0, () -> x.cakes(1));
        is("draw", 2, x::undo);
        is("drawn", 1, () -> x.birthdayOf(0));
        is("advance", 1, x::undo);
        is("date", 101, () -> x.month() * 100 + x.dayOfMonth());
        is("age", 0, () -> x.ageOf(0));
        is("parties", 0, x::heldParties);
        is("set", 0, x::undo);
        fails("none", STATE, x::undo);
        x.buyCandles(1);
        promise(3);
        fails("an error", ARGUMENT, () -> Loading.load(x, "registry"));
        promise(52);
        is("an error leaves the changes", 0, x::undo);
        x.buyCandles(1);
        Loading.load(x, "registry 0 0");
        fails("a text discards the changes", STATE, x::undo);
        x.append(0, 0, 0, 0, 0);
        x.writeDate();
        x.buyCandles(1);
        x.append(0, 0, 0, 0, 0);
        x.undo();
        promise(2);
        is("undo leaves the input", 60, () -> x.append(0, 0, 0, 0, 0));
        promise(56);
        is("undo leaves the output", '1', () -> x.outputByte(0));
    }

    private static void theSavedStates() {
        InventedBirthdays x = Loading.of("registry 3 50;garden 3;child a 0 1 0 0;cakes 0 9;birthday a 1 5;days 360");
        promise(53);
        is("the year", 1, () -> x.save(0));
        fails("it is no change", STATE, x::undo);
        x.advance(720);
        is("the year", 3, () -> x.save(1));
        x.draw(0);
        promise(51);
        is("slot 0", 1, () -> x.restore(0));
        is("seed", 3, x::seed);
        is("candles", 49, x::candles);
        is("slot 1", 3, () -> x.restore(1));
        is("birthday", 4, () -> x.birthdayOf(0));
        is("slot 0 stays saved", 1, () -> x.restore(0));
        promise(52);
        is("a restore is undone", 4, x::undo);
        is("the year", 3, x::year);
        promise(53);
        is("replaced", 3, () -> x.save(0));
        promise(51);
        is("replaced", 3, () -> x.restore(0));
        promise(52);
        x.undo();
        x.undo();
        x.undo();
        x.undo();
        is("advance is undone", 0, x::undo);
        is("the year", 1, x::year);
        promise(51);
        is("undo leaves the saved states", 3, () -> x.restore(0));
        for (int slot : new int[] {-1, 2, LOW, HIGH}) {
            promise(51);
            fails("slot " + slot, INDEX, () -> x.restore(slot));
            promise(53);
            fails("slot " + slot, INDEX, () -> x.save(slot));
        }
        promise(51);
        fails("an error", ARGUMENT, () -> Loading.load(x, "x"));
        is("it leaves the saved states", 3, () -> x.restore(1));
        Loading.load(x, "registry 0 0");
        fails("a text discards them", STATE, () -> x.restore(0));
        fails("a text discards them", STATE, () -> x.restore(1));
        x.save(1);
        fails("the other slot", STATE, () -> x.restore(0));
        is("slot 1", 0, () -> x.restore(1));
        promise(3);
        is("all names come back", 1, Loading.of(BASE + "child abcdef 0 1 0 0"), y -> {
            y.save(0);
            y.advance(1);
            y.restore(0);
            return y.childCount();
        });
    }

    private static void theOutput() {
        InventedBirthdays x = Loading.of("registry 0 999;garden 3;child abcdef 0 1 99 0;child z 0 1 0 0;child az 0 1 10 0;cakes 0 9;birthday abcdef 12 30;birthday az 1 1");
        promise(54);
        is("six letters", "abcdef 99 12/30", x, x.writeChild(0));
        is("no birthday", "z 0", x, x.writeChild(1));
        is("1/1", "az 10 1/1", x, x.writeChild(2));
        promise(55);
        is("the first date", "1.1.0", x, x.writeDate());
        x.advance(359);
        is("the last date of the year", "30.12.0", x, x.writeDate());
        promise(54);
        is("100", "abcdef 100 12/30", x, x.writeChild(0));
        promise(56);
        fails("beyond", INDEX, () -> x.outputByte(16));
        fails("negative", INDEX, () -> x.outputByte(-1));
        fails("extreme", INDEX, () -> x.outputByte(HIGH));
        fails("extreme", INDEX, () -> x.outputByte(LOW));
        promise(55);
        is("the last date", "30.12.99", Loading.atTheLastDay(""), 0);
        is("replaced", "30.12.0", x, x.writeDate());
        promise(56);
        fails("the longer text is gone", INDEX, () -> x.outputByte(7));
        fails("a wrong child", INDEX, () -> x.writeChild(3));
        is("leaves the output", '3', () -> x.outputByte(0));
        Loading.load(x, "registry 0 0");
        is("load leaves the output", '0', () -> x.outputByte(6));
    }

    private static void theThrowingCallsAlterNothing() {
        InventedBirthdays x = Loading.of("registry 9 9998;garden 1;garden 3;child a 0 1 0 0;child b 0 1 0 1;cakes 0 99;birthday b 1 5");
        promise(44);
        fails("advance", ARGUMENT, () -> x.advance(0));
        promise(46);
        fails("setBirthday", STATE, () -> x.setBirthday(0, 1, 1));
        promise(49);
        fails("buyCandles", STATE, () -> x.buyCandles(2));
        promise(50);
        fails("bakeCakes", STATE, () -> x.bakeCakes(0, 1));
        promise(48);
        fails("moveTo", STATE, () -> x.moveTo(1, 0));
        promise(45);
        fails("draw", STATE, () -> x.draw(0));
        promise(51);
        fails("restore", STATE, () -> x.restore(0));
        promise(52);
        fails("none of them is recorded", STATE, x::undo);
        is("seed", 9, x::seed);
        is("candles", 9998, x::candles);
        is("cakes", 99, () -> x.cakes(0));
        is("garden", 1, () -> x.gardenOf(1));
        is("birthday", -1, () -> x.birthdayOf(0));
    }

    // ---- the means

    private static void promise(int number) {
        promise = number;
    }

    private static void good(String text) {
        InventedBirthdays x = new InventedBirthdays();
        promise(3);
        int children = text.split("child ", -1).length - 1;
        is("load '" + text + "'", children, () -> Loading.load(x, text));
        promise(4);
        is("kind of '" + text + "'", 0, x::errorKind);
        promise(5);
        is("offset of '" + text + "'", -1, x::errorOffset);
    }

    private static void error(String text, int kind, int offset) {
        InventedBirthdays x = new InventedBirthdays();
        promise(3);
        fails("load '" + text + "'", ARGUMENT, () -> Loading.load(x, text));
        is("the state stays after '" + text + "'", 3, x::childCount);
        promise(4);
        is("kind of '" + text + "'", kind, x::errorKind);
        promise(5);
        is("offset of '" + text + "'", offset, x::errorOffset);
    }

    private static void is(String what, double want, Call call) {
        checks++;
        try {
            double got = call.answer();
            if (got != want) {
                complain(what, got, want);
            }
        } catch (RuntimeException e) {
            complain(what, e, want);
        }
    }

    private static void is(String what, String want, InventedBirthdays x, int length) {
        checks++;
        int written = length == 0 ? x.writeDate() : length;
        StringBuilder got = new StringBuilder();
        for (int i = 0; i < written; i++) {
            got.append((char) x.outputByte(i));
        }
        if (!want.contentEquals(got)) {
            complain(what, got, want);
        }
        fails(what + ": its end", INDEX, () -> x.outputByte(written));
    }

    private static void fails(String what, Class<? extends RuntimeException> want, Call call) {
        checks++;
        try {
            complain(what, call.answer(), want);
        } catch (RuntimeException e) {
            if (e.getClass() != want) {
                complain(what, e, want);
            }
        }
    }

    private static void complain(String what, Object got, Object want) {
        wrong++;
        System.out.println("promise " + promise + ": " + what + ": " + got + ", due is " + want);
    }
}
