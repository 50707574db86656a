import java.io.IOException;
import java.nio.file.Files;
import java.nio.file.Path;
import java.util.ArrayList;
import java.util.List;
import java.util.Map;
import java.util.TreeMap;
import java.util.regex.Matcher;
import java.util.regex.Pattern;

/**
 * The document sentence by sentence: each sentence is quoted beside a test of the boundary that it names.
 * A sentence of the document without a test, or a quotation that the document does not have, is a fault.
 */
public final class BoundaryTest {
    private interface Call {
        double answer();
    }

    private interface NumberCall {
        double answer(int number);
    }

    private interface DateCall {
        double answer(int month, int day);
    }

    private interface ObjectCall {
        double answer(InventedBirthdays x);
    }

    private interface ObjectDateCall {
        double answer(InventedBirthdays x, int month, int day);
    }

    private interface ObjectNumberCall {
        double answer(InventedBirthdays x, int number);
    }

    private static final class Refusal {
        final Class<? extends RuntimeException> due;
        final ObjectCall call;

        Refusal(Class<? extends RuntimeException> due, ObjectCall call) {
            this.due = due;
            this.call = call;
        }
    }

    private static final Class<IndexOutOfBoundsException> INDEX = IndexOutOfBoundsException.class;
    private static final Class<IllegalArgumentException> ARGUMENT = IllegalArgumentException.class;
    private static final Class<IllegalStateException> STATE = IllegalStateException.class;
    private static final int LOW = Integer.MIN_VALUE;
    private static final int HIGH = Integer.MAX_VALUE;
    private static final int TERMS = 0;
    private static final Path DOCUMENT = Path.of("../shared/DOC.md");

    private static final String FIRST_TEXT = "registry 7 12; garden 4; garden 2; child ada 2 3 4 0; child ben 2 9 1 0; child cleo 5 2 6 1; "
            + "cakes 2 1; cakes 3 2; birthday ada 1 5; draw ben; birthday cleo 1 5; days 4";
    private static final String FOUR = "registry 7 50;garden 9;garden 9;child a 0 1 0 0;child b 1 1 0 0;child c 2 1 0 1;child d 3 1 0 1";
    private static final String PAIR = "registry 0 0;garden 2;garden 2;child a 0 1 0 0;child b 0 1 0 0;";
    // dora's garden is too small for her, the candles and the cakes of kind 3 are nearly as many as they may be.
    private static final String REFUSING = "registry 7 9990;garden 4;garden 2;garden 1;child ada 2 3 4 0;child ben 2 9 1 0;child cleo 5 2 6 1;"
            + "child dora 2 5 2 2;cakes 2 9;cakes 3 99;birthday ada 1 5;birthday cleo 1 5";

    private static final Map<Integer, List<String>> QUOTED = new TreeMap<>();
    private static int promise;
    private static String sentence;
    private static int checks;
    private static int wrong;

    public static void main(String[] args) throws IOException {
        theUse();
        theCalendar();
        theGardensAndCakes();
        theChildren();
        theDraw();
        theDay();
        theGrammar();
        theTokens();
        thePlacesOfErrors();
        theKindsOfErrors();
        theHistory();
        theRefusals();
        promises1To5();
        promises6To13();
        promises14To17();
        promises18To22();
        promises23To28();
        promises29To32();
        promises33To35();
        promises36And37();
        promises38To43();
        promises44And45();
        promises46To48();
        promises49And50();
        promises51To53();
        promises54To56();
        eachSentenceHasATest();
        System.out.println(checks + " checks of " + QUOTED.values().stream().mapToInt(List::size).sum() + " sentences, " + wrong + " wrong");
        if (wrong != 0) {
            System.exit(1);
        }
    }

    // ---- Terms

    private static void theUse() {
        says(TERMS, "An object is used for at most 512 calls after it has been made; what later calls answer is free.", () -> {
            InventedBirthdays x = new InventedBirthdays();
            for (int call = 1; call <= 510; call++) {
                is(call, x.buyCandles(1));
            }
            is(9, x.undo());
            is(509, x.candles());
        });
        says(TERMS, "The registry is set up by a text that is parsed from a byte buffer.", () -> {
            InventedBirthdays x = new InventedBirthdays();
            Loading.fill(x, "registry 1 2;garden 3");
            is(2, x.gardenCount());
            is(0, x.load(21));
            is(1, x.gardenCount());
        });
        says(TERMS, "Every change can be undone, and two states can be saved.", () -> {
            for (ObjectCall change : changes()) {
                InventedBirthdays x = refusing();
                String before = seen(x);
                change.answer(x);
                different(before, seen(x));
                x.undo();
                same(before, seen(x));
            }
            InventedBirthdays x = Loading.of("registry 0 1");
            x.save(0);
            x.buyCandles(1);
            x.save(1);
            x.buyCandles(1);
            x.restore(0);
            is(1, x.candles());
            x.restore(1);
            is(2, x.candles());
        });
        says(TERMS, "No two parties share a garden on one day.", () -> {
            InventedBirthdays x = Loading.of(PAIR + "birthday a 1 2");
            fails(STATE, () -> x.setBirthday(1, 1, 2));
            x.moveTo(1, 1);
            x.setBirthday(1, 1, 2);
            fails(STATE, () -> x.moveTo(1, 0));
            is(0, x.clashes());
            error(6, PAIR + "birthday a 1 2;birthday b 1 ^2");
            is(258, Loading.of(PAIR + "birthday a 4 8;draw b").birthdayOf(1));
        });
        says(TERMS, "All numbers are integers unless a method returns double or float.", () -> {
            InventedBirthdays x = Loading.of("registry 0 9;garden 3;child a 0 9 1 0;child b 0 9 2 0;cakes 0 1;birthday a 1 2;birthday b 1 3;days 2");
            is(2.5, x.meanAge());
            is(1.0, x.wishShare());
        });
    }

    private static void theCalendar() {
        says(TERMS, "A year has 12 months, numbered from 1, of 30 days each, numbered from 1.", () -> {
            for (int position = 0; position < 360; position++) {
                InventedBirthdays x = Loading.of("registry 0 0");
                if (position > 0) {
                    x.advance(position);
                }
                is(position / 30 + 1, x.month());
                is(position % 30 + 1, x.dayOfMonth());
                is(0, x.year());
            }
        });
        says(TERMS, "A date is a month and a day; its position in the year is (month - 1) * 30 + day - 1, which is 0 to 359.", () -> {
            for (int month = 1; month <= 12; month++) {
                InventedBirthdays x = Loading.of(FOUR);
                for (int day = 1; day <= 30; day++) {
                    x.setBirthday(0, month, day);
                    is((month - 1) * 30 + day - 1, x.birthdayOf(0));
                }
            }
            is(0, Loading.of(FOUR + ";birthday a 1 1").birthdayOf(0));
            is(29, Loading.of(FOUR + ";birthday a 1 30").birthdayOf(0));
            is(30, Loading.of(FOUR + ";birthday a 2 1").birthdayOf(0));
            is(330, Loading.of(FOUR + ";birthday a 12 1").birthdayOf(0));
            is(359, Loading.of(FOUR + ";birthday a 12 30").birthdayOf(0));
        });
        says(TERMS, "The registry begins on the date 1/1 (month 1, day 1) of the year 0.", () -> {
            InventedBirthdays x = new InventedBirthdays();
            x.advance(720);
            Loading.load(x, "registry 0 0");
            is(1, x.month());
            is(1, x.dayOfMonth());
            is(0, x.year());
        });
        says(TERMS, "The year is at most 99.", () -> {
            InventedBirthdays x = Loading.atTheLastDay("");
            is(99, x.year());
            is(12, x.month());
            is(30, x.dayOfMonth());
            fails(STATE, () -> x.advance(1));
            is(99, x.year());
            is(12, x.month());
            is(30, x.dayOfMonth());
        });
        says(TERMS, "The next date begins; after 12/30 that is 1/1 of the next year.", () -> {
            InventedBirthdays x = Loading.of("registry 0 0;days 358");
            x.advance(1);
            is(12, x.month());
            is(30, x.dayOfMonth());
            is(0, x.year());
            x.advance(1);
            is(1, x.month());
            is(1, x.dayOfMonth());
            is(1, x.year());
            InventedBirthdays monthEnd = Loading.of("registry 0 0;days 29");
            is(30, monthEnd.dayOfMonth());
            monthEnd.advance(1);
            is(2, monthEnd.month());
            is(1, monthEnd.dayOfMonth());
            InventedBirthdays twice = Loading.of("registry 0 0;days 720");
            is(2, twice.year());
            is(1, twice.month());
            is(1, twice.dayOfMonth());
        });
    }

    private static void theGardensAndCakes() {
        says(TERMS, "There are at most 4 gardens, numbered from 0.", () -> {
            InventedBirthdays x = Loading.of("registry 0 0;garden 5;garden 6;garden 7;garden 8");
            for (int garden = 0; garden < 4; garden++) {
                is(5 + garden, x.seatsOf(garden));
            }
            fails(INDEX, () -> x.seatsOf(-1));
            fails(INDEX, () -> x.seatsOf(4));
            error(5, "registry 0 0;garden 5;garden 6;garden 7;garden 8;^garden 9");
        });
        says(TERMS, "A garden has a number of seats (1 to 12).", () -> {
            for (int seats = 1; seats <= 12; seats++) {
                is(seats, Loading.of("registry 0 0;garden " + seats).seatsOf(0));
            }
            error(2, "registry 0 0;garden ^0");
            error(2, "registry 0 0;garden ^13");
        });
        says(TERMS, "There are 6 kinds of cake, numbered from 0 to 5.", () -> {
            InventedBirthdays x = Loading.of("registry 0 0;cakes 0 10;cakes 1 11;cakes 2 12;cakes 3 13;cakes 4 14;cakes 5 15");
            for (int kind = 0; kind <= 5; kind++) {
                is(10 + kind, x.cakes(kind));
            }
            fails(ARGUMENT, () -> x.cakes(-1));
            fails(ARGUMENT, () -> x.cakes(6));
            error(2, "registry 0 0;cakes ^6 1");
            error(2, "registry 0 0;garden 1;child a ^6 1 0 0");
            good("registry 0 0;garden 1;child a 5 1 0 0;child b 0 1 0 0");
        });
        says(TERMS, "The registry has a stock of each kind (0 to 99, 0 at first) and a stock of candles (0 to 9999).", () -> {
            InventedBirthdays x = Loading.of("registry 0 0");
            for (int kind = 0; kind <= 5; kind++) {
                is(0, x.cakes(kind));
                is(99, x.bakeCakes(kind, 99));
                int full = kind;
                fails(STATE, () -> x.bakeCakes(full, 1));
            }
            is(0, x.candles());
            InventedBirthdays most = Loading.of("registry 0 9999");
            is(9999, most.candles());
            fails(STATE, () -> most.buyCandles(1));
            error(1, "registry 0 ^10000");
        });
    }

    private static void theChildren() {
        says(TERMS, "There are at most 10 children, numbered from 0.", () -> {
            InventedBirthdays x = Loading.of(children(10));
            for (int child = 0; child < 10; child++) {
                is(child + 1, x.breathOf(child));
            }
            fails(INDEX, () -> x.breathOf(-1));
            fails(INDEX, () -> x.breathOf(10));
            error(5, children(10) + ";^child k 0 1 0 0");
        });
        says(TERMS, "a name of 1 to 6 letters from a to z", () -> {
            String line = "registry 0 0;garden 1;child ";
            good(line + "a 0 1 0 0");
            good(line + "zyxwvu 0 1 0 0");
            error(1, line + "^abcdefg 0 1 0 0");
            error(1, line + "^0 1 0 0");
            error(1, line + "^A 0 1 0 0");
            for (char letter = 'a'; letter <= 'z'; letter++) {
                String name = ("" + letter).repeat(6);
                InventedBirthdays x = Loading.of(line + letter + " 0 1 0 0;child " + name + " 1 1 0 0");
                written(letter + " 0", x, x.writeChild(0));
                written(name + " 0", x, x.writeChild(1));
            }
        });
        says(TERMS, "(no two children have the same name)", () -> {
            String line = "registry 0 0;garden 1;child abc 0 1 0 0;child ";
            error(4, line + "^abc 0 1 0 0");
            good(line + "ab 0 1 0 0");
            good(line + "abcd 0 1 0 0");
            good(line + "abd 0 1 0 0");
            good(line + "bbc 0 1 0 0");
            good(line + "cba 0 1 0 0");
            error(4, "registry 0 0;garden 1;child a 0 1 0 0;child aaaaaa 0 1 0 0;child ^aaaaaa 0 1 0 0");
            good("registry 0 0;garden 1;child a 0 1 0 0;child aa 0 1 0 0;child aaaaaa 0 1 0 0;child aaaaa 0 1 0 0");
        });
        says(TERMS, "a breath (1 to 20)", () -> {
            for (int breath = 1; breath <= 20; breath++) {
                is(breath, Loading.of("registry 0 0;garden 1;child a 0 " + breath + " 0 0").breathOf(0));
            }
            error(2, "registry 0 0;garden 1;child a 0 ^0 0 0");
            error(2, "registry 0 0;garden 1;child a 0 ^21 0 0");
        });
        says(TERMS, "an age (0 to 99 at first)", () -> {
            is(0, Loading.of("registry 0 0;garden 1;child a 0 1 0 0").ageOf(0));
            is(99, Loading.of("registry 0 0;garden 1;child a 0 1 99 0").ageOf(0));
            error(2, "registry 0 0;garden 1;child a 0 1 ^100 0");
            is(100, Loading.of("registry 0 0;garden 1;child a 0 1 99 0;birthday a 1 2;days 1").ageOf(0));
        });
        says(TERMS, "either no birthday or a birthday, which is a date", () -> {
            InventedBirthdays x = Loading.of(FOUR + ";birthday a 1 1");
            is(0, x.birthdayOf(0));
            is(-1, x.birthdayOf(1));
        });
        says(TERMS, "There is an obstacle to a garden and a date for a child if one of the following reasons applies.", () -> {
            InventedBirthdays x = Loading.of("registry 0 0;garden 1;garden 2;child a 0 1 0 1;child b 0 1 0 1;child c 1 1 0 0;birthday a 3 4;birthday c 3 4");
            is(0, x.obstacle(1, 1, 3, 5));
            is(1, x.obstacle(1, 1, 3, 4));
            is(2, x.obstacle(1, 0, 3, 5));
            is(1, x.obstacle(1, 0, 3, 4));
        });
        says(TERMS, "1: another child has this garden and its birthday is this date.", () -> {
            InventedBirthdays x = Loading.of("registry 0 0;garden 9;garden 9;child a 0 1 0 0;child b 0 1 0 0;child c 0 1 0 0;birthday b 3 1");
            is(1, x.obstacle(0, 0, 3, 1));
            is(1, x.obstacle(2, 0, 3, 1));
            is(0, x.obstacle(1, 0, 3, 1));
            is(0, x.obstacle(0, 1, 3, 1));
            is(0, x.obstacle(0, 0, 3, 2));
            is(0, x.obstacle(0, 0, 2, 30));
            is(0, x.obstacle(0, 0, 4, 1));
            x.forgetBirthday(1);
            is(0, x.obstacle(0, 0, 3, 1));
        });
        says(TERMS, "2: the garden has fewer seats than the number of all children of the registry with the same favourite cake, "
                + "the child included, whatever their gardens are.", () -> {
            InventedBirthdays x = Loading.of("registry 0 0;garden 1;garden 2;garden 3;garden 4;child a 0 1 0 0;child b 0 1 0 1;child c 0 1 0 2;child d 5 1 0 1");
            is(2, x.obstacle(0, 0, 1, 1));
            is(2, x.obstacle(0, 1, 1, 1));
            is(0, x.obstacle(0, 2, 1, 1));
            is(0, x.obstacle(0, 3, 1, 1));
            is(0, x.obstacle(3, 0, 1, 1));
            is(0, Loading.of("registry 0 0;garden 10;" + tenChildrenLikingCake0()).obstacle(9, 0, 1, 1));
            is(2, Loading.of("registry 0 0;garden 9;" + tenChildrenLikingCake0()).obstacle(9, 0, 1, 1));
        });
    }

    private static void theDraw() {
        says(TERMS, "The registry has a seed from 0 to 9972.", () -> {
            is(0, Loading.of("registry 0 0").seed());
            is(9972, Loading.of("registry 9972 0").seed());
            error(2, "registry ^9973 0");
            is(0, seedAfterADraw(5246));
            is(9972, seedAfterADraw(7562));
        });
        says(TERMS, "A draw changes the seed to the remainder of (seed * 211 + 97) divided by 9973; "
                + "the drawn date is that whose position in the year is the remainder of the new seed divided by 360.", () -> {
            int[][] draws = {{0, 97, 97}, {46, 9803, 83}, {47, 41, 41}, {9972, 9859, 139}, {7562, 9972, 252}, {5246, 0, 0}, {2930, 1, 1},
                {1561, 359, 359}, {9218, 360, 0}, {5103, 9719, 359}, {2787, 9720, 0}, {5176, 5176, 136}};
            for (int[] draw : draws) {
                InventedBirthdays x = Loading.of("registry " + draw[0] + " 0;garden 1;child a 0 1 0 0");
                is(draw[2], x.nextDraw());
                is(1, x.draw(0));
                is(draw[1], x.seed());
                is(draw[2], x.birthdayOf(0));
            }
        });
        says(TERMS, "To draw a birthday for a child means: dates are drawn until there is no obstacle to the child's garden and the drawn date, "
                + "but at most 20 dates.", () -> {
            InventedBirthdays x = Loading.of(PAIR + "birthday a 4 8");
            is(2, x.draw(1));
            is(618, x.seed());
            is(258, x.birthdayOf(1));
            // No seed needs more than twelve dates but the one that draws itself for ever.
            InventedBirthdays longest = Loading.of("registry 882 0;garden 12;" + tenChildrenLikingCake0() + ";birthday b 7 26;birthday c 4 30;birthday d 8 28;"
                    + "birthday e 2 20;birthday f 5 1;birthday g 3 29;birthday h 12 29;birthday i 3 13;birthday j 7 11");
            is(12, longest.drawsNeeded(0));
            is(12, longest.draw(0));
            is(164, longest.birthdayOf(0));
            InventedBirthdays forEver = Loading.of("registry 5176 0;garden 2;child a 0 1 0 0;child b 0 1 0 0;birthday a 5 17");
            is(-1, forEver.drawsNeeded(1));
            fails(STATE, () -> forEver.draw(1));
            is(1, forEver.drawsNeeded(0));
        });
        says(TERMS, "If one is found, it becomes the birthday of the child, also if the child had another one before.", () -> {
            InventedBirthdays x = Loading.of("registry 0 0;garden 2;child a 0 1 0 0;birthday a 12 30");
            is(1, x.draw(0));
            is(97, x.birthdayOf(0));
            is(0, x.childrenOn(12, 30));
            InventedBirthdays own = Loading.of("registry 0 0;garden 2;child a 0 1 0 0;birthday a 4 8");
            is(1, own.draw(0));
            is(97, own.birthdayOf(0));
            InventedBirthdays none = Loading.of("registry 0 0;garden 1;child a 0 1 0 0;birthday a 12 30;child b 0 1 0 0");
            fails(STATE, () -> none.draw(0));
            is(359, none.birthdayOf(0));
            is(0, none.seed());
        });
    }

    private static void theDay() {
        says(TERMS, "When a day passes, these things happen in this order.", () -> {
            InventedBirthdays x = Loading.of("registry 0 9;garden 1;child a 0 9 0 0;cakes 0 9;birthday a 1 1");
            is(0, x.advance(359));
            is(1, x.advance(1));
            is(1, x.year());
            is(0, x.advance(1));
        });
        says(TERMS, "The children whose birthday is this date have a birthday, by ascending numbers, as follows.", () -> {
            InventedBirthdays x = Loading.of("registry 0 5;garden 4;garden 4;garden 4;child a 0 9 4 2;child b 0 9 4 0;child c 0 9 4 1;child d 0 9 4 1;"
                    + "birthday c 1 2;birthday b 1 2;birthday a 1 2;birthday d 1 3;cakes 0 2;days 1");
            is(1, x.partiesOf(0));
            is(1, x.partiesOf(1));
            is(0, x.partiesOf(2));
            is(1, x.wishesOf(0));
            is(0, x.wishesOf(1));
            is(5, x.ageOf(2));
            is(4, x.ageOf(3));
            is(1, x.failedParties());
        });
        says(TERMS, "The age of the child increases by 1.", () -> {
            String text = "registry 0 0;garden 2;child a 0 1 0 0;child b 0 1 99 0;birthday a 1 2;birthday b 1 3";
            is(0, Loading.of(text).ageOf(0));
            is(1, Loading.of(text + ";days 1").ageOf(0));
            is(1, Loading.of(text + ";days 360").ageOf(0));
            is(2, Loading.of(text + ";days 361").ageOf(0));
            is(101, Loading.of(text + ";days 720").ageOf(1));
            is(1, Loading.of(text + ";cakes 0 1;days 1").ageOf(0));
        });
        says(TERMS, "The cake is of the favourite kind if its stock is not 0; otherwise of the next kind whose stock is not 0, where 0 follows after 5.", () -> {
            for (int favourite = 0; favourite <= 5; favourite++) {
                for (int baked = 1; baked < 64; baked++) {
                    theCakeIsRight(favourite, baked);
                }
            }
        });
        says(TERMS, "If there is no cake at all, the party fails.", () -> {
            InventedBirthdays x = Loading.of("registry 0 9;garden 2;child a 0 20 0 0;birthday a 1 2");
            is(0, x.advance(1));
            is(1, x.failedParties());
            is(0, x.heldParties());
            is(0, x.partiesOf(0));
            is(0, x.wishesOf(0));
            is(9, x.candles());
            is(1, x.ageOf(0));
            x.bakeCakes(5, 1);
            is(1, x.advance(360));
            is(1, x.failedParties());
            is(0, x.advance(360));
            is(2, x.failedParties());
        });
        says(TERMS, "Otherwise the party is held: the stock of the kind decreases by 1; as many candles as the age are lit, "
                + "or all candles of the stock if they are fewer, and the stock decreases by them.", () -> {
            for (int candles = 0; candles <= 12; candles++) {
                InventedBirthdays x = Loading.of("registry 0 " + candles + ";garden 2;child a 3 20 4 0;cakes 3 2;birthday a 1 2");
                is(1, x.advance(1));
                is(1, x.cakes(3));
                is(candles <= 5 ? 0 : candles - 5, x.candles());
                is(candles < 5 ? 0 : 1, x.wishesOf(0));
                is(0, x.candleDifference());
            }
        });
        says(TERMS, "The guests are the other children whose favourite is the kind of this cake, but at most as many as the garden has seats minus 1.", () -> {
            for (int seats = 1; seats <= 12; seats++) {
                for (int others = 0; others <= 9; others++) {
                    int guests = others < seats ? others : seats - 1;
                    guestsComeToAnotherCake(seats, others, guests);
                }
            }
            // The child is no guest of its own, and the friends of its favourite cake do not come to another.
            is(0, wishes("registry 0 99;garden 9;child a 0 2 2 0;cakes 0 1;birthday a 1 2;days 1"));
            is(0, wishes("registry 0 99;garden 9;child a 0 2 2 0;child b 0 1 0 0;cakes 1 1;birthday a 1 2;days 1"));
            is(1, wishes("registry 0 99;garden 9;child a 0 2 2 0;child b 0 1 0 0;cakes 0 1;birthday a 1 2;days 1"));
        });
        says(TERMS, "The strength of the party is the breath of the child plus the number of guests.", () -> {
            is(1, Loading.of("registry 0 0;garden 1;child a 0 1 0 0").strengthOf(0));
            is(29, Loading.of("registry 0 0;garden 12;" + tenChildrenLikingCake0().replace("child a 0 1 ", "child a 0 20 ")).strengthOf(0));
            String friend = ";child b 0 9 0 0;cakes 0 1;birthday a 1 2;days 1";
            is(1, wishes("registry 0 99;garden 9;child a 0 4 4 0" + friend));
            is(0, wishes("registry 0 99;garden 9;child a 0 3 4 0" + friend));
        });
        says(TERMS, "The wish of the child is granted if as many candles as the age are lit and the strength is at least their number.", () -> {
            String cake = ";cakes 0 1;birthday a 1 2;days 1";
            for (int breath = 1; breath <= 20; breath++) {
                is(1, wishes("registry 0 99;garden 9;child a 0 " + breath + " " + (breath - 1) + " 0" + cake));
                is(0, wishes("registry 0 99;garden 9;child a 0 " + breath + " " + breath + " 0" + cake));
                is(1, wishes("registry 0 " + breath + ";garden 9;child a 0 20 " + (breath - 1) + " 0" + cake));
                is(0, wishes("registry 0 " + (breath - 1) + ";garden 9;child a 0 20 " + (breath - 1) + " 0" + cake));
            }
            // Fewer candles than the strength are lit, but the age is more.
            is(0, wishes("registry 0 2;garden 9;child a 0 5 8 0" + cake));
        });
    }

    private static void theCakeIsRight(int favourite, int baked) {
        StringBuilder text = new StringBuilder("registry 0 0;garden 1;child a " + favourite + " 1 0 0;birthday a 1 2");
        for (int kind = 0; kind <= 5; kind++) {
            text.append((baked >> kind & 1) == 1 ? ";cakes " + kind + " 1" : "");
        }
        InventedBirthdays x = Loading.of(text.toString());
        int due = favourite;
        while ((baked >> due & 1) == 0) {
            due = due == 5 ? 0 : due + 1;
        }
        is(1, x.advance(1));
        for (int kind = 0; kind <= 5; kind++) {
            is(kind == due ? 0 : baked >> kind & 1, x.cakes(kind));
        }
    }

    /** The child's favourite is out of stock, and the others like the cake there is: 10 + guests candles are just not too many. */
    private static void guestsComeToAnotherCake(int seats, int others, int guests) {
        StringBuilder friends = new StringBuilder();
        for (int i = 0; i < others; i++) {
            friends.append(";child ").append((char) ('b' + i)).append(" 1 1 0 0");
        }
        String cake = friends + ";cakes 1 1;birthday a 1 2;days 1";
        is(1, wishes("registry 0 99;garden " + seats + ";child a 0 10 " + (9 + guests) + " 0" + cake));
        is(0, wishes("registry 0 99;garden " + seats + ";child a 0 10 " + (10 + guests) + " 0" + cake));
    }

    private static double wishes(String text) {
        return Loading.of(text).wishesOf(0);
    }

    private static double seedAfterADraw(int seed) {
        return Loading.of("registry " + seed + " 0;garden 1;child a 0 1 0 0;draw a").seed();
    }

    // ---- Description text

    private static void theGrammar() {
        says(TERMS, "Braces enclose a part that may occur any number of times, and a bar separates alternatives.", () -> {
            good("registry 0 0");
            good("registry 0 0;cakes 0 1");
            good("registry 0 0" + ";cakes 0 1".repeat(58));
            good("registry 0 0" + ";days 1".repeat(84));
            error(1, "registry 0 0;^");
            error(1, "registry 0 0;cakes 0 1;^");
            error(1, "registry 0 0;^;cakes 0 1");
            error(1, "registry 0 0;^cake 0 1");
            error(1, "registry 0 0;^registry 0 0");
        });
        says(TERMS, "The numbers after \"registry\" are the seed and the stock of candles.", () -> {
            InventedBirthdays x = Loading.of("registry 9972 9999");
            is(9972, x.seed());
            is(9999, x.candles());
            InventedBirthdays least = Loading.of("registry 0 0");
            is(0, least.seed());
            is(0, least.candles());
        });
        says(TERMS, "\"garden\" adds a garden with its seats.", () -> {
            InventedBirthdays x = Loading.of("registry 0 0;garden 12;garden 1");
            is(12, x.seatsOf(0));
            is(1, x.seatsOf(1));
        });
        says(TERMS, "\"child\" adds a child with its favourite cake, breath, age and garden; it has no birthday.", () -> {
            InventedBirthdays x = Loading.of("registry 0 0;garden 1;garden 1;child a 5 20 99 1;birthday a 1 1;child b 0 1 0 0");
            is(5, x.cakeOf(0));
            is(20, x.breathOf(0));
            is(99, x.ageOf(0));
            is(1, x.gardenOf(0));
            is(0, x.cakeOf(1));
            is(1, x.breathOf(1));
            is(0, x.ageOf(1));
            is(0, x.gardenOf(1));
            is(-1, x.birthdayOf(1));
        });
        says(TERMS, "\"birthday\" gives a child a birthday (month, day), \"draw\" draws one, \"cakes\" adds a number (1 to 99) to the stock of a kind, "
                + "and \"days\" lets 1 to 720 days pass.", () -> {
            is(359, Loading.of(FOUR + ";birthday d 12 30").birthdayOf(3));
            is(134, Loading.of(FOUR + ";draw d").birthdayOf(3));
            is(1, Loading.of("registry 0 0;cakes 5 1").cakes(5));
            is(99, Loading.of("registry 0 0;cakes 5 99").cakes(5));
            is(99, Loading.of("registry 0 0;cakes 5 98;cakes 5 1").cakes(5));
            error(2, "registry 0 0;cakes 5 ^0");
            error(2, "registry 0 0;cakes 5 ^100");
            is(2, Loading.of("registry 0 0;days 1").dayOfMonth());
            is(2, Loading.of("registry 0 0;days 720").year());
            error(2, "registry 0 0;days ^0");
            error(2, "registry 0 0;days ^721");
        });
        says(TERMS, "The lines are executed in their order, with the effects of the methods setBirthday, draw, bakeCakes and advance.", () -> {
            String text = "registry 0 9;garden 1;child a 0 9 0 0;";
            is(1, Loading.of(text + "cakes 0 1;birthday a 1 2;days 1").heldParties());
            is(0, Loading.of(text + "cakes 0 1;days 1;birthday a 1 2").heldParties());
            is(1, Loading.of(text + "birthday a 1 2;days 1;cakes 0 1").failedParties());
            is(97, Loading.of(text + "birthday a 1 2;draw a").birthdayOf(0));
            is(1, Loading.of(text + "draw a;birthday a 1 2").birthdayOf(0));
            error(2, "registry 0 9;child a 0 9 0 ^0;garden 1");
            error(3, "registry 0 9;garden 1;draw ^a;child a 0 9 0 0");
        });
    }

    private static void theTokens() {
        says(TERMS, "A token is a word (a run of letters a to z), a number (a run of digits) or a semicolon, and each token is as long as possible.", () -> {
            good("registry 0123 9;garden 1;child az 0 1 0 0;draw az");
            is(9078, Loading.of("registry 9078 3456").seed());
            is(3456, Loading.of("registry 9078 3456").candles());
            Matcher word = Pattern.compile("[a-z]{4,}").matcher("registry 1 2;garden 3;child a 0 1 0 0;birthday a 1 2;draw a;cakes 0 1;days 1");
            while (word.find()) {
                theWordIsReadToItsLastLetter(word);
            }
            error(1, "^registryy 0 0");
            error(1, "^registr y 0 0");
            error(1, "registry 0 ^00000");
            good("registry 0 0;garden 1;garden 1");
            error(1, "registry 0 0;^;");
            for (int sign = 0; sign < 256; sign++) {
                theSignAtTheEndIsRight(sign);
                theSignAtTheBeginningIsRight(sign);
            }
        });
        says(TERMS, "Spaces (byte 32) and line feeds (byte 10) may stand between tokens and at both ends of the text.", () -> {
            good("   registry 0 0");
            good("\n\nregistry 0 0");
            good("registry 0 0  ");
            good("registry 0 0\n\n");
            good("\n registry \n 0\n0 \n; garden\n1 ;\nchild  a\n0 1\n\n0 0 \n");
            good("registry 0 0 ;garden 1");
            good("registry 0 0; garden 1");
            good("registry 0 0\n;\ngarden 1");
            error(1, "registry ^\t0 0");
            error(1, "registry 0 0^\r\n");
        });
        says(TERMS, "A word or number that directly follows a word or number, without a space or line feed between them, is a syntax error.", () -> {
            error(1, "registry^0 0");
            error(1, "registry 0^x 0");
            error(1, "registry 0 0^x");
            error(1, "registry 0 0;garden^1");
            error(1, "registry 0 0;garden 1^x");
            error(1, "registry 0 0;garden 1^garden 1");
            error(1, "registry 0 0;garden 1;child a^0 1 0 0");
            error(1, "registry 0 0;garden 1;child a 0 1 0 0^x");
            error(1, "registry 0 0;garden 1;child a 0 1 0 0;draw a^1");
            good("registry\n0\n0");
            good("registry 0 0;garden 1;child a 0 1 0 0;draw a");
        });
    }

    private static void theWordIsReadToItsLastLetter(Matcher word) {
        StringBuilder text = new StringBuilder("registry 1 2;garden 3;child a 0 1 0 0;birthday a 1 2;draw a;cakes 0 1;days 1");
        for (int at = word.start(); at < word.end(); at++) {
            char letter = text.charAt(at);
            text.setCharAt(at, letter == 'z' ? 'y' : (char) (letter + 1));
            errorAt(1, word.start(), text.toString());
            text.setCharAt(at, letter);
        }
    }

    private static void theSignAtTheEndIsRight(int sign) {
        String text = "registry 1 2" + (char) sign;
        if (sign == ' ' || sign == '\n') {
            good(text);
        } else if (sign >= '0' && sign <= '9') {
            is(20 + sign - '0', Loading.of(text).candles());
        } else if (sign == ';') {
            errorAt(1, 13, text);
        } else {
            errorAt(1, 12, text);
        }
    }

    private static void theSignAtTheBeginningIsRight(int sign) {
        String text = (char) sign + "registry 1 2";
        if (sign == ' ' || sign == '\n') {
            good(text);
        } else {
            errorAt(1, 0, text);
        }
    }

    private static void thePlacesOfErrors() {
        says(TERMS, "The parser reports the error with the smallest offset.", () -> {
            error(2, "registry ^9973 99999;x");
            error(2, "registry 0 0;garden ^13;garden 0;;");
            error(3, "registry 0 0;draw ^a 1;registry");
            error(6, PAIR + "birthday a 1 1;birthday b 1 ^1;birthday b 1 31");
            error(1, "registry 0 0;^garde 13");
            error(2, "registry 0 0;garden 1;child a ^6 0 100 1");
            error(2, "registry 0 0;garden 1;child a 0 ^0 100 1");
            error(2, "registry 0 0;garden 1;child a 0 1 ^100 1");
            error(2, PAIR + "birthday a ^13 31");
            error(4, PAIR + "child ^a 6 0 100 4");
            error(2, "registry 0 0;cakes ^6 0");
        });
        says(TERMS, "The offset of an error is the offset of the first byte of its token.", () -> {
            error(1, "registry  \n ^abcdef 0");
            error(2, "registry 0 0;garden   ^9999");
            error(1, "registry 0 0;garden ^99999");
            error(1, "registry 0 0 ; ^gardens 1");
            error(1, "registry 0 0^abc");
        });
        says(TERMS, "If the text ends too early, the offset is the length of the text.", () -> {
            String[] ends = {"", "registry", "registry 0", "registry 0 0;", "registry 0 0;garden", "registry 0 0;child", "registry 0 0;child a",
                "registry 0 0;child a 0", "registry 0 0;child a 0 1", "registry 0 0;child a 0 1 0", "registry 0 0;birthday", PAIR + "birthday a",
                PAIR + "birthday a 1", PAIR + "draw", PAIR + "cakes", PAIR + "cakes 0", PAIR + "days", PAIR};
            for (String text : ends) {
                error(1, text + "^");
                error(1, text + " ^");
                error(1, text + "\n  ^");
            }
            InventedBirthdays x = new InventedBirthdays();
            Loading.fill(x, "registry 0 0;garden 1");
            fails(ARGUMENT, () -> x.load(10));
            is(1, x.errorKind());
            is(10, x.errorOffset());
            errorAt(1, 600, "registry" + " ".repeat(592));
        });
        says(TERMS, "If several kinds of error apply to one token, the parser reports the smallest kind.", () -> {
            error(1, "registry ^10000 0");
            error(1, "registry^9973 0");
            error(1, "registry 0 0;garden^13");
            error(1, "registry 0 0;garden ^99999");
            error(1, PAIR + "birthday ^abcdefg 1 1");
            error(1, PAIR + "draw ^abcdefg");
            error(1, PAIR + "draw ^1");
            error(1, PAIR + "birthday a 1 1;birthday b 1 ^00001");
            error(2, PAIR + "birthday a 1 1;birthday b 1 ^31");
            error(1, "registry 0 0;garden 1;garden 1;garden 1;garden 1^garden 1");
            error(1, children(10) + "^child k 0 1 0 0");
            error(1, children(10) + " ^child k 0 1 0 0");
        });
    }

    private static void theKindsOfErrors() {
        String all = "registry 1 2;garden 3;child a 0 1 0 0;birthday a 1 2;draw a;cakes 0 1;days 1";
        says(TERMS, "Kind 1, syntax error: a token that the grammar does not allow at this place", () -> {
            good(all);
            replaced(all, "[0-9]+", "x", 1);
            replaced(all, "[0-9]+", ";", 1);
            replaced(all, "\\ba\\b", "1", 1);
            replaced(all, "\\ba\\b", ";", 1);
            replaced(all, "[a-z]{4,}", "7", 1);
            replaced(all, "[a-z]{4,}", "zz", 1);
            replaced(all, "[a-z]{4,}", ";", 1);
            replaced(all, ";", " 5", 1, 1);
            replaced(all, ";", " draw", 1, 1);
            error(1, all + " ^1");
            error(1, all + " ^a");
        });
        says(TERMS, "a name with more than 6 letters", () -> {
            good(all.replaceAll("\\ba\\b", "abcdef"));
            replaced(all, "\\ba\\b", "abcdefg", 1);
            error(1, "registry 0 0;garden 1;child ^aaaaaaa 0 1 0 0");
            error(1, "registry 0 0;garden 1;child ^birthday 0 1 0 0");
        });
        says(TERMS, "a number with more than 4 digits", () -> {
            for (String number : new String[] {"00001", "10000", "99999", "4294967297", "18446744073709551617", "0".repeat(40)}) {
                replaced(all, "[0-9]+", number, 1);
            }
            good("registry 0001 0002;garden 0003;child a 0000 0001 0000 0000;birthday a 0001 0002;draw a;cakes 0000 0001;days 0001");
            is(9999, Loading.of("registry 0 9999").candles());
        });
        says(TERMS, "a byte that starts no token", () -> {
            String[] strange = {"A", "Z", "`", "{", "/", ":", "<", "-", "+", ".", "\"", "_", "\t", "\r", "\0", "\u007f", "\u0080", "\u00e9", "\u00ff"};
            for (String sign : strange) {
                replaced(all, "[0-9]+", sign, 1);
                replaced(all, ";", sign, 1);
                replaced(all, "[a-z]+", sign, 1);
            }
        });
        says(TERMS, "or the end of the text", () -> {
            for (int at = 0; at < all.length(); at++) {
                if (all.charAt(at) == ' ') {
                    errorAt(1, at, all.substring(0, at));
                    errorAt(1, at + 1, all.substring(0, at + 1));
                } else if (all.charAt(at) == ';') {
                    good(all.substring(0, at));
                    errorAt(1, at + 1, all.substring(0, at + 1));
                }
            }
            error(1, "^");
        });
        says(TERMS, "Kind 2, out of range: a number outside its range", () -> {
            int[][] most = {{0, 9972}, {0, 9999}, {1, 12}, {0, 5}, {1, 20}, {0, 99}, {0, 0}, {1, 12}, {1, 30}, {0, 5}, {1, 99}, {1, 720}};
            Matcher number = Pattern.compile("[0-9]+").matcher(all);
            for (int[] range : most) {
                number.find();
                String before = all.substring(0, number.start());
                String after = all.substring(number.end());
                good(before + range[0] + after);
                good(before + range[1] + after);
                if (range[1] < 9999) {
                    errorAt(2, number.start(), before + (range[1] + 1) + after);
                    errorAt(2, number.start(), before + 9999 + after);
                }
                if (range[0] > 0) {
                    errorAt(2, number.start(), before + 0 + after);
                }
            }
        });
        says(TERMS, "the number of a garden that does not exist", () -> {
            String four = "registry 0 0;garden 1;garden 1;garden 1;garden 1;";
            good(four + "child a 0 1 0 3");
            error(2, four + "child a 0 1 0 ^4");
            error(2, "registry 0 0;child a 0 1 0 ^0");
            error(2, "registry 0 0;garden 1;child a 0 1 0 ^1");
            error(2, "registry 0 0;garden 1;child a 0 1 0 ^1;garden 1");
            good("registry 0 0;garden 1;garden 1;child a 0 1 0 1");
        });
        says(TERMS, "the number after \"days\" by which the year would exceed 99", () -> {
            String years = "registry 0 0" + ";days 720".repeat(49);
            good(years + ";days 719");
            error(2, years + ";days ^720");
            good(years + ";days 360;days 359");
            error(2, years + ";days 360;days ^360");
            error(2, years + ";days 719;days ^1");
            is(99, Loading.of(years + ";days 719").year());
        });
        says(TERMS, "or the second number after \"cakes\" by which the stock would exceed 99", () -> {
            good("registry 0 0;cakes 3 99;cakes 2 99");
            error(2, "registry 0 0;cakes 3 99;cakes 3 ^1");
            good("registry 0 0;cakes 3 98;cakes 3 1");
            error(2, "registry 0 0;cakes 3 98;cakes 3 ^2");
            error(2, "registry 0 0;cakes 3 1;cakes 3 ^99");
            // A party makes room for one more.
            good("registry 0 0;garden 1;child a 3 1 0 0;birthday a 1 2;cakes 3 99;days 1;cakes 3 1");
        });
        says(TERMS, "Kind 3, unknown name: the name after \"birthday\" or \"draw\" that no child has.", () -> {
            error(3, "registry 0 0;draw ^a");
            error(3, "registry 0 0;birthday ^a 1 1");
            for (String name : new String[] {"c", "aa", "ba", "ab", "bb", "aaaaaa", "z"}) {
                error(3, PAIR + "draw ^" + name);
                error(3, PAIR + "birthday ^" + name + " 1 1");
            }
            good(PAIR + "draw b");
            error(3, "registry 0 0;garden 2;child ab 0 1 0 0;draw ^a");
            error(3, "registry 0 0;garden 2;child ab 0 1 0 0;draw ^abc");
            error(3, "registry 0 0;garden 2;child ab 0 1 0 0;draw ^b");
        });
        says(TERMS, "Kind 4, duplicate name: the name after \"child\" that a child has.", () -> {
            error(4, PAIR + "child ^a 0 1 0 0");
            error(4, PAIR + "child ^b 0 1 0 0");
            good(PAIR + "child c 0 1 0 0");
            String nine = children(9);
            error(4, nine + ";child ^i 0 1 0 0");
            good(nine + ";child j 0 1 0 0");
        });
        says(TERMS, "Kind 5, too many: the word of a 5th \"garden\" or an 11th \"child\".", () -> {
            String four = "registry 0 0;garden 1;garden 1;garden 1;garden 1";
            good(four);
            error(5, four + ";^garden 1");
            error(5, four + ";^garden");
            error(5, four + ";^garden 13");
            good(four + ";child garden 0 1 0 3");
            good(children(10));
            error(5, children(10) + ";^child k 0 1 0 0");
            error(5, children(10) + ";^child a 0 1 0 0");
            error(5, children(10) + ";^child");
            good(children(10).replace("child j", "child child") + ";draw child");
        });
        says(TERMS, "Kind 6, refused: the day of \"birthday\" if there is an obstacle, or the name after \"draw\" if no date is found.", () -> {
            error(6, PAIR + "birthday a 12 30;birthday b 12 ^30");
            good(PAIR + "birthday a 12 30;birthday b 12 29");
            good(PAIR + "birthday a 12 30;birthday a 12 30");
            error(6, PAIR + "child c 0 1 0 1;birthday c 1 ^1");
            error(6, PAIR + "child c 0 1 0 1;draw ^c");
            error(6, "registry 5176 0;garden 2;child a 0 1 0 0;child b 0 1 0 0;draw a;draw ^b");
            good("registry 5175 0;garden 2;child a 0 1 0 0;child b 0 1 0 0;draw a;draw b");
        });
    }

    // ---- History

    private static void theHistory() {
        says(TERMS, "The methods in the section \"changes\" record a change whenever they return normally, even if they alter nothing.", () -> {
            InventedBirthdays x = Loading.of("registry 5176 0;garden 2;child a 0 1 0 0;birthday a 5 17;child b 1 1 0 0");
            x.save(0);
            String before = seen(x);
            ObjectCall[] idle = {y -> y.draw(0), y -> y.setBirthday(0, 5, 17), y -> y.forgetBirthday(1), y -> y.moveTo(0, 0), y -> y.restore(0)};
            for (ObjectCall call : idle) {
                call.answer(x);
            }
            same(before, seen(x));
            for (int left = idle.length - 1; left >= 0; left--) {
                is(left, x.undo());
            }
            fails(STATE, x::undo);
            same(before, seen(x));
            for (ObjectCall change : changes()) {
                InventedBirthdays y = refusing();
                change.answer(y);
                is(2, y.undo());
            }
        });
        says(TERMS, "The last 10 recorded changes can be undone.", () -> {
            for (int changes : new int[] {0, 1, 2, 9, 10, 11, 12, 19, 20, 21, 25}) {
                InventedBirthdays x = Loading.of("registry 0 0");
                for (int i = 0; i < changes; i++) {
                    x.buyCandles(1);
                }
                int most = Math.min(changes, 10);
                for (int undone = 1; undone <= most; undone++) {
                    is(most - undone, x.undo());
                    is(changes - undone, x.candles());
                }
                fails(STATE, x::undo);
                is(changes - most, x.candles());
            }
        });
        says(TERMS, "Undoing a change restores the state before it, except for the input buffer, the output buffer, the reported error and the saved states.", () -> {
            InventedBirthdays x = Loading.of(REFUSING);
            x.buyCandles(1);
            fails(ARGUMENT, () -> Loading.load(x, "registry 9973 0"));
            x.append(0, 0, 0, 0, 0);
            x.writeDate();
            x.save(1);
            x.undo();
            is(9990, x.candles());
            is(40, x.append(0, 0, 0, 0, 0));
            written("1.1.0", x, 5);
            is(2, x.errorKind());
            is(9, x.errorOffset());
            x.restore(1);
            is(9991, x.candles());
        });
        says(TERMS, "A new simulator is in the state that the text \"registry 7 12; garden 4; garden 2; child ada 2 3 4 0; child ben 2 9 1 0; "
                + "child cleo 5 2 6 1; cakes 2 1; cakes 3 2; birthday ada 1 5; draw ben; birthday cleo 1 5; days 4\" describes, and its buffers are empty.", () -> {
            InventedBirthdays x = new InventedBirthdays();
            same(seen(Loading.of(FIRST_TEXT)), seen(x));
            fails(INDEX, () -> x.outputByte(0));
            fails(INDEX, () -> x.load(1));
            is(20, x.append(0, 0, 0, 0, 0));
            fails(STATE, x::undo);
            fails(STATE, () -> x.restore(0));
            fails(STATE, () -> x.restore(1));
        });
        says(TERMS, "The result of a search that finds nothing.", () -> {
            InventedBirthdays x = Loading.of("registry 0 0;garden 1;child a 0 1 0 0;child b 0 1 0 0");
            is(-1, InventedBirthdays.NONE);
            is(-1, x.errorOffset());
            is(-1, x.partyIn(0, 1, 1));
            is(-1, x.birthdayOf(0));
            is(-1, x.daysUntilBirthday(0));
            is(-1, x.nextChild());
            is(-1, x.busiestMonth());
            is(-1, x.freeGarden(0, 1, 1));
            is(-1, x.drawsNeeded(0));
            is(-1, x.forgetBirthday(0));
        });
    }

    private static ObjectCall[] changes() {
        return new ObjectCall[] {x -> x.advance(1), x -> x.draw(1), x -> x.setBirthday(1, 3, 4), x -> x.forgetBirthday(0), x -> x.moveTo(2, 0),
            x -> x.buyCandles(1), x -> x.bakeCakes(2, 1), x -> x.restore(0)};
    }

    /** Two changes stand, slot 0 is filled, slot 1 is empty, input and output are not. */
    private static InventedBirthdays refusing() {
        InventedBirthdays x = Loading.of(REFUSING);
        x.save(0);
        x.advance(4);
        x.setBirthday(2, 1, 6);
        x.writeDate();
        x.append(0x72656769, 0x73747279, 0x20313233, 0x34203536, 0x37383B3B);
        return x;
    }

    private static void theRefusals() {
        says(TERMS, "A method that throws an exception alters nothing, unless its description says otherwise.", () -> {
            for (Refusal refusal : refusals()) {
                InventedBirthdays x = refusing();
                fails(refusal.due, () -> refusal.call.answer(x));
                isAsUntouched(x, refusing());
            }
            InventedBirthdays last = Loading.atTheLastDay("garden 1;child a 0 9 0 0;birthday a 1 1;cakes 0 99;");
            String before = seen(last);
            fails(STATE, () -> last.advance(1));
            fails(STATE, () -> last.advance(720));
            same(before, seen(last));
            is(9, last.undo());
            InventedBirthdays empty = Loading.of("registry 0 0;garden 1");
            before = seen(empty);
            fails(STATE, empty::undo);
            same(before, seen(empty));
            InventedBirthdays full = filled(600);
            before = seen(full);
            fails(STATE, () -> full.append(1, 2, 3, 4, 5));
            same(before, seen(full));
            is(3, full.childCount());
            is(0, full.load(600));
            is(2023, full.seed());
        });
        says(TERMS, "If several exceptions apply to one call, the method throws the one that is listed first.", () -> {
            InventedBirthdays x = refusing();
            fails(INDEX, () -> x.load(21));
            for (int bad : new int[] {-1, 3, LOW, HIGH}) {
                fails(INDEX, () -> x.partyIn(bad, 13, 31));
                fails(INDEX, () -> x.obstacle(0, bad, 13, 31));
                fails(INDEX, () -> x.moveTo(0, bad));
            }
            for (int bad : new int[] {-1, 4, LOW, HIGH}) {
                fails(INDEX, () -> x.obstacle(bad, 0, 0, 0));
                fails(INDEX, () -> x.obstacle(bad, 3, 0, 0));
                fails(INDEX, () -> x.freeGarden(bad, 0, 0));
                fails(INDEX, () -> x.wishesAfter(bad, 721));
                fails(INDEX, () -> x.setBirthday(bad, 1, 31));
                fails(INDEX, () -> x.draw(bad));
                fails(INDEX, () -> x.moveTo(bad, 2));
            }
            fails(ARGUMENT, () -> x.setBirthday(3, 13, 1));
            fails(ARGUMENT, () -> x.setBirthday(3, 1, 31));
            fails(ARGUMENT, () -> x.buyCandles(1000));
            fails(ARGUMENT, () -> x.bakeCakes(3, 100));
            fails(ARGUMENT, () -> x.bakeCakes(6, 99));
            fails(INDEX, () -> x.restore(2));
            fails(INDEX, () -> x.restore(-1));
            InventedBirthdays last = Loading.atTheLastDay("");
            fails(ARGUMENT, () -> last.advance(721));
            fails(ARGUMENT, () -> last.advance(HIGH));
        });
    }

    private static List<Refusal> refusals() {
        List<Refusal> all = new ArrayList<>();
        for (ObjectCall call : new ObjectCall[] {x -> x.load(21), x -> x.load(-1), x -> x.seatsOf(3), x -> x.childrenOf(-1), x -> x.partyIn(3, 1, 1),
            x -> x.cakeOf(4), x -> x.breathOf(-1), x -> x.ageOf(4), x -> x.gardenOf(-1), x -> x.birthdayOf(4), x -> x.daysUntilBirthday(4),
            x -> x.partiesOf(4), x -> x.wishesOf(4), x -> x.strengthOf(4), x -> x.dateAt(2), x -> x.dateAt(-1), x -> x.obstacle(4, 0, 1, 1),
            x -> x.obstacle(0, 3, 1, 1), x -> x.freeGarden(4, 1, 1), x -> x.drawsNeeded(4), x -> x.wishesAfter(4, 1), x -> x.draw(4),
            x -> x.setBirthday(4, 1, 1), x -> x.forgetBirthday(-1), x -> x.moveTo(4, 0), x -> x.moveTo(3, 3), x -> x.restore(2), x -> x.save(2),
            x -> x.save(-1), x -> x.writeChild(4), x -> x.writeChild(-1), x -> x.outputByte(5), x -> x.outputByte(-1)}) {
            all.add(new Refusal(INDEX, call));
        }
        for (ObjectCall call : new ObjectCall[] {x -> x.cakes(6), x -> x.partyIn(0, 13, 1), x -> x.childrenOn(1, 31), x -> x.obstacle(0, 0, 0, 1),
            x -> x.freeGarden(0, 1, 0), x -> x.candlesAfter(721), x -> x.wishesAfter(0, -1), x -> x.advance(0), x -> x.advance(721),
            x -> x.setBirthday(0, 1, 31), x -> x.buyCandles(0), x -> x.buyCandles(1000), x -> x.bakeCakes(6, 1), x -> x.bakeCakes(0, 0),
            x -> x.bakeCakes(0, 100)}) {
            all.add(new Refusal(ARGUMENT, call));
        }
        for (ObjectCall call : new ObjectCall[] {x -> x.draw(3), x -> x.setBirthday(3, 1, 1), x -> x.setBirthday(1, 1, 5), x -> x.moveTo(0, 2),
            x -> x.buyCandles(999), x -> x.bakeCakes(3, 99), x -> x.restore(1)}) {
            all.add(new Refusal(STATE, call));
        }
        return all;
    }

    private static void isAsUntouched(InventedBirthdays x, InventedBirthdays untouched) {
        same(seen(untouched), seen(x));
        is(0, x.errorKind());
        is(-1, x.errorOffset());
        written("5.1.0", x, 5);
        is(40, x.append(0, 0, 0, 0, 0));
        is(0, x.restore(0));
        is(0, untouched.restore(0));
        same(seen(untouched), seen(x));
        fails(STATE, () -> x.restore(1));
        for (int left = 2; left >= 0; left--) {
            is(left, x.undo());
            untouched.undo();
        }
        same(seen(untouched), seen(x));
        fails(STATE, x::undo);
        is(0, x.load(18));
        is(1234, x.seed());
        is(5678, x.candles());
    }

    // ---- the promises

    private static void promises1To5() {
        says(1, "Creates the simulator in the state that the class comment describes.", () -> {
            InventedBirthdays x = new InventedBirthdays();
            same(seen(Loading.of(FIRST_TEXT)), seen(x));
            written("ada 5 1/5", x, x.writeChild(0));
            written("ben 1 5/15", x, x.writeChild(1));
            written("cleo 7 1/5", x, x.writeChild(2));
            x.advance(720);
            InventedBirthdays second = new InventedBirthdays();
            is(0, second.year());
            is(5, second.ageOf(0));
        });
        says(2, "Appends 20 bytes to the input buffer: the four bytes of each parameter in order, most significant byte first.", () -> {
            InventedBirthdays x = new InventedBirthdays();
            x.append(0x72656769, 0x73747279, 0x20313233, 0x34203536, 0x37380a0a);
            is(0, x.load(20));
            is(1234, x.seed());
            is(5678, x.candles());
            // A byte of 128 or more is one byte too.
            InventedBirthdays high = new InventedBirthdays();
            high.append(0x72656769, 0x73747279, 0x20312032, 0x20202020, 0x202020ff);
            fails(ARGUMENT, () -> high.load(20));
            is(19, high.errorOffset());
        });
        says(2, "- `a`: the first four bytes", () -> firstStrange(0xff000000, 0, 0, 0, 0, 0));
        says(2, "- `b`: the next four bytes", () -> firstStrange(0x20202020, 0x2020ff20, 0, 0, 0, 6));
        says(2, "- `c`: the next four bytes", () -> firstStrange(0x20202020, 0x20202020, 0x20ff2020, 0, 0, 9));
        says(2, "- `d`: the next four bytes", () -> firstStrange(0x20202020, 0x20202020, 0x20202020, 0x80202020, 0, 12));
        says(2, "- `e`: the last four bytes", () -> firstStrange(0x20202020, 0x20202020, 0x20202020, 0x20202020, 0x2020207f, 19));
        says(2, "Returns the new length of the buffer.", () -> {
            InventedBirthdays x = new InventedBirthdays();
            for (int length = 20; length <= 600; length += 20) {
                is(length, x.append(LOW, HIGH, 0, -1, 1));
            }
            fails(ARGUMENT, () -> x.load(600));
            is(20, x.append(0, 0, 0, 0, 0));
        });
        says(2, "Throws `IllegalStateException` if the buffer would be longer than 600 bytes", () -> {
            InventedBirthdays x = filled(580);
            is(600, x.append(0x20202020, 0x20202020, 0x20202020, 0x20202020, 0x20202020));
            fails(STATE, () -> x.append(0, 0, 0, 0, 0));
            fails(STATE, () -> x.append(0, 0, 0, 0, 0));
            is(0, x.load(600));
            is(20, x.append(0, 0, 0, 0, 0));
        });
        says(3, "Parses the first bytes of the input buffer as a description and replaces the whole state by the result.", () -> {
            InventedBirthdays x = Loading.atTheLastDay("garden 9;garden 9;child a 5 9 9 1;child b 5 9 9 0;birthday a 1 1;birthday b 1 1;cakes 5 99;");
            x.buyCandles(999);
            x.bakeCakes(2, 3);
            Loading.fill(x, "registry 1 2;garden 3;child b 4 5 6 0;;;");
            is(1, x.load(37));
            same(seen(Loading.of("registry 1 2;garden 3;child b 4 5 6 0")), seen(x));
            fails(ARGUMENT, () -> Loading.load(x, "registry 1 2;draw a"));
            is(18, x.errorOffset());
            // Nothing is left of a text before, be it right or wrong.
            String busy = "registry 5 6;garden 9;garden 9;child a 0 9 0 1;child b 1 9 0 1;cakes 4 2;birthday a 1 2;birthday b 1 3;days 720";
            String plain = "registry 1 2;garden 3;child c 4 5 6 0;child d 3 1 0 0";
            InventedBirthdays again = Loading.of(busy);
            is(2, again.failedParties());
            is(1, again.wishesOf(0));
            Loading.load(again, plain);
            same(seen(Loading.of(plain)), seen(again));
            fails(ARGUMENT, () -> Loading.load(again, busy + ";x"));
            Loading.load(again, plain);
            same(seen(Loading.of(plain)), seen(again));
        });
        says(3, "The recorded changes and the saved states are discarded.", () -> {
            InventedBirthdays x = refusing();
            x.save(1);
            x.load(18);
            fails(STATE, x::undo);
            fails(STATE, () -> x.restore(0));
            fails(STATE, () -> x.restore(1));
            x.buyCandles(1);
            is(0, x.undo());
            is(5678, x.candles());
        });
        says(3, "The output buffer stays as it is.", () -> {
            InventedBirthdays x = refusing();
            x.load(18);
            written("5.1.0", x, 5);
            fails(ARGUMENT, () -> x.load(0));
            written("5.1.0", x, 5);
        });
        says(3, "The input buffer is empty afterwards, also if the text has an error.", () -> {
            InventedBirthdays x = refusing();
            is(0, x.load(18));
            fails(INDEX, () -> x.load(1));
            is(20, x.append(0, 0, 0, 0, 0));
            fails(ARGUMENT, () -> x.load(20));
            fails(INDEX, () -> x.load(1));
            is(20, x.append(0, 0, 0, 0, 0));
            fails(ARGUMENT, () -> x.load(0));
            fails(INDEX, () -> x.load(1));
            is(20, x.append(0, 0, 0, 0, 0));
        });
        says(3, "- `length`: the number of bytes to parse, 0 to the length of the buffer", () -> {
            InventedBirthdays x = new InventedBirthdays();
            fails(ARGUMENT, () -> x.load(0));
            is(0, x.errorOffset());
            InventedBirthdays part = filled(20);
            is(0, part.load(15));
            is(2023, part.seed());
            InventedBirthdays shorter = filled(20);
            fails(ARGUMENT, () -> shorter.load(13));
            is(13, shorter.errorOffset());
            InventedBirthdays whole = filled(600);
            is(0, whole.load(600));
            is(2023, whole.seed());
        });
        says(3, "Returns the number of children.", () -> {
            is(0, Loading.load(new InventedBirthdays(), "registry 0 0"));
            is(1, Loading.load(new InventedBirthdays(), children(1)));
            is(10, Loading.load(new InventedBirthdays(), children(10)));
        });
        says(3, "Throws `IndexOutOfBoundsException` if length is out of range; the input buffer and the reported error stay as they are", () -> {
            InventedBirthdays x = new InventedBirthdays();
            refused(INDEX, outOf(0, 0), x::load);
            fails(ARGUMENT, () -> Loading.load(x, "registry 9973 0"));
            x.append(0x72656769, 0x73747279, 0x20313233, 0x34203536, 0x37380a0a);
            refused(INDEX, outOf(0, 20), x::load);
            is(2, x.errorKind());
            is(9, x.errorOffset());
            is(0, x.load(20));
            is(1234, x.seed());
            InventedBirthdays full = filled(600);
            refused(INDEX, outOf(0, 600), full::load);
            is(0, full.load(600));
        });
        says(3, "Throws `IllegalArgumentException` if the text has an error; only the input buffer and the reported error change", () -> {
            InventedBirthdays x = refusing();
            String before = seen(x);
            String[] wrongTexts = {"registry 1 2;garden 1;child a 0 1 0 0;days 9;x", "registry 1 2;garden 13", "registry 1 2;draw a",
                "registry 1 2;garden 1;child a 0 1 0 0;child a 0 1 0 0", children(10) + ";child k 0 1 0 0", PAIR + "birthday a 1 1;birthday b 1 1"};
            fails(ARGUMENT, () -> x.load(20));
            for (int i = 0; i < wrongTexts.length; i++) {
                String text = wrongTexts[i];
                fails(ARGUMENT, () -> Loading.load(x, text));
                is(i + 1, x.errorKind());
            }
            same(before, seen(x));
            written("5.1.0", x, 5);
            is(1, x.undo());
            is(0, x.undo());
            x.advance(720);
            is(0, x.restore(0));
            fails(STATE, () -> x.restore(1));
        });
        says(4, "Returns the kind of the error that the last call of load() reported.", () -> {
            InventedBirthdays x = new InventedBirthdays();
            fails(ARGUMENT, () -> Loading.load(x, "registry 9973 0"));
            is(2, x.errorKind());
            fails(ARGUMENT, () -> Loading.load(x, "registry"));
            is(1, x.errorKind());
            fails(INDEX, () -> x.load(1));
            is(1, x.errorKind());
        });
        says(4, "Returns 1 to 6; 0 if that call found no error or if no text has been parsed yet.", () -> {
            InventedBirthdays x = new InventedBirthdays();
            is(0, x.errorKind());
            fails(ARGUMENT, () -> x.load(0));
            is(1, x.errorKind());
            fails(ARGUMENT, () -> Loading.load(x, PAIR + "birthday a 1 1;birthday b 1 1"));
            is(6, x.errorKind());
            Loading.load(x, "registry 0 0");
            is(0, x.errorKind());
        });
        says(5, "Returns the offset of the error that the last call of load() reported.", () -> {
            InventedBirthdays x = new InventedBirthdays();
            fails(ARGUMENT, () -> Loading.load(x, "registry 9973 0"));
            is(9, x.errorOffset());
            fails(ARGUMENT, () -> Loading.load(x, "registry 0 0 0"));
            is(13, x.errorOffset());
            fails(INDEX, () -> x.load(1));
            is(13, x.errorOffset());
        });
        says(5, "Returns the offset in bytes; NONE if errorKind() is 0.", () -> {
            InventedBirthdays x = new InventedBirthdays();
            is(-1, x.errorOffset());
            fails(ARGUMENT, () -> Loading.load(x, "x"));
            is(0, x.errorOffset());
            Loading.load(x, "registry 0 0");
            is(-1, x.errorOffset());
            errorAt(1, 599, "registry 0 0" + " ".repeat(587) + "x");
        });
    }

    private static void firstStrange(int a, int b, int c, int d, int e, int offset) {
        InventedBirthdays x = new InventedBirthdays();
        x.append(a, b, c, d, e);
        fails(ARGUMENT, () -> x.load(20));
        is(offset, x.errorOffset());
    }

    /** The input holds so many bytes: a text of 15 bytes, and spaces. */
    private static InventedBirthdays filled(int length) {
        InventedBirthdays x = new InventedBirthdays();
        Loading.fill(x, "registry 2023 0" + " ".repeat(length - 15));
        return x;
    }

    private static void promises6To13() {
        says(6, "Returns the year.", () -> {
            is(0, Loading.of("registry 0 0;days 359").year());
            is(1, Loading.of("registry 0 0;days 360").year());
            is(1, Loading.of("registry 0 0;days 719").year());
            is(2, Loading.of("registry 0 0;days 720").year());
        });
        says(6, "Returns 0 to 99.", () -> {
            is(0, Loading.of("registry 0 0").year());
            is(99, Loading.atTheLastDay("").year());
        });
        says(7, "Returns the month of the present date.", () -> {
            is(1, Loading.of("registry 0 0;days 29").month());
            is(2, Loading.of("registry 0 0;days 30").month());
            is(11, Loading.of("registry 0 0;days 329").month());
            is(12, Loading.of("registry 0 0;days 330").month());
        });
        says(7, "Returns 1 to 12.", () -> {
            is(1, Loading.of("registry 0 0").month());
            is(12, Loading.of("registry 0 0;days 359").month());
            is(1, Loading.of("registry 0 0;days 360").month());
        });
        says(8, "Returns the day of the present date.", () -> {
            is(2, Loading.of("registry 0 0;days 1").dayOfMonth());
            is(29, Loading.of("registry 0 0;days 28").dayOfMonth());
        });
        says(8, "Returns 1 to 30.", () -> {
            is(1, Loading.of("registry 0 0").dayOfMonth());
            is(30, Loading.of("registry 0 0;days 29").dayOfMonth());
            is(1, Loading.of("registry 0 0;days 30").dayOfMonth());
            is(30, Loading.of("registry 0 0;days 359").dayOfMonth());
            is(1, Loading.of("registry 0 0;days 360").dayOfMonth());
        });
        says(9, "Returns the seed.", () -> {
            is(1234, Loading.of("registry 1234 0").seed());
            is(97, seedAfterADraw(0));
        });
        says(9, "Returns 0 to 9972.", () -> {
            is(0, Loading.of("registry 0 0").seed());
            is(9972, Loading.of("registry 9972 0").seed());
            is(0, seedAfterADraw(5246));
            is(9972, seedAfterADraw(7562));
        });
        says(10, "Returns the position in the year of the date that the next draw would give.", () -> {
            InventedBirthdays x = Loading.of("registry 46 0;garden 1;child a 0 1 0 0");
            is(83, x.nextDraw());
            is(46, x.seed());
            is(83, x.nextDraw());
            x.draw(0);
            is(83, x.birthdayOf(0));
        });
        says(10, "Returns 0 to 359.", () -> {
            is(0, Loading.of("registry 5246 0").nextDraw());
            is(0, Loading.of("registry 9218 0").nextDraw());
            is(359, Loading.of("registry 1561 0").nextDraw());
            is(359, Loading.of("registry 5103 0").nextDraw());
            is(252, Loading.of("registry 7562 0").nextDraw());
        });
        says(11, "Returns the stock of candles.", () -> {
            InventedBirthdays x = Loading.of("registry 0 5");
            is(5, x.candles());
            x.buyCandles(999);
            is(1004, x.candles());
        });
        says(11, "Returns 0 to 9999.", () -> {
            is(0, Loading.of("registry 0 0").candles());
            is(9999, Loading.of("registry 0 9999").candles());
            is(0, Loading.of("registry 0 3;garden 1;child a 0 1 3 0;cakes 0 1;birthday a 1 2;days 1").candles());
        });
        says(12, "Returns the stock of a kind of cake.", () -> {
            InventedBirthdays x = Loading.of("registry 0 0;cakes 0 3;cakes 5 4");
            is(3, x.cakes(0));
            is(0, x.cakes(1));
            is(4, x.cakes(5));
        });
        says(12, "- `kind`: 0 to 5", () -> {
            InventedBirthdays x = Loading.of("registry 0 0;cakes 0 3;cakes 5 4");
            is(3, x.cakes(0));
            is(4, x.cakes(5));
        });
        says(12, "Returns 0 to 99.", () -> {
            is(0, Loading.of("registry 0 0").cakes(3));
            is(99, Loading.of("registry 0 0;cakes 3 99").cakes(3));
            is(0, Loading.of("registry 0 3;garden 1;child a 3 1 3 0;cakes 3 1;birthday a 1 2;days 361").cakes(3));
        });
        says(12, "Throws `IllegalArgumentException` if kind is out of range", () -> {
            InventedBirthdays x = Loading.of("registry 0 0");
            refused(ARGUMENT, outOf(0, 5), x::cakes);
        });
        says(13, "Finds the kind of cake that most children like best.", () -> {
            for (int kind = 0; kind <= 5; kind++) {
                String two = ";child b " + kind + " 1 0 0;child c " + kind + " 1 0 0";
                is(kind, Loading.of("registry 0 0;garden 1;child a 0 1 0 0" + two).mostWantedCake());
                is(kind, Loading.of("registry 0 0;garden 1;child a 5 1 0 0" + two).mostWantedCake());
            }
            is(0, Loading.of("registry 0 0;garden 1;child a 0 1 0 0;child b 5 1 0 0;child c 0 1 0 0").mostWantedCake());
        });
        says(13, "Returns the kind, on a tie the smallest one; 0 without children.", () -> {
            for (int kind = 0; kind < 5; kind++) {
                is(kind, Loading.of("registry 0 0;garden 1;child a 5 1 0 0;child b " + kind + " 1 0 0").mostWantedCake());
                is(kind, Loading.of("registry 0 0;garden 1;child a " + kind + " 1 0 0;child b " + (kind + 1) + " 1 0 0").mostWantedCake());
            }
            is(0, Loading.of("registry 0 0").mostWantedCake());
            is(0, Loading.of("registry 0 0;garden 1;cakes 3 9").mostWantedCake());
        });
    }

    private static void promises14To17() {
        says(14, "Returns the number of gardens.", () -> {
            is(1, Loading.of("registry 0 0;garden 1").gardenCount());
            is(3, Loading.of("registry 0 0;garden 1;garden 1;garden 1").gardenCount());
        });
        says(14, "Returns 0 to 4.", () -> {
            is(0, Loading.of("registry 0 0").gardenCount());
            is(4, Loading.of("registry 0 0;garden 1;garden 1;garden 1;garden 1").gardenCount());
        });
        says(15, "Returns the number of seats of a garden.", () -> {
            InventedBirthdays x = Loading.of("registry 0 0;garden 5;garden 6;garden 5;garden 8");
            is(5, x.seatsOf(0));
            is(8, x.seatsOf(3));
        });
        says(15, "Returns 1 to 12.", () -> {
            is(1, Loading.of("registry 0 0;garden 1").seatsOf(0));
            is(12, Loading.of("registry 0 0;garden 12").seatsOf(0));
        });
        says(15, "Throws `IndexOutOfBoundsException` if there is no such garden", () -> needsGarden((x, garden) -> x.seatsOf(garden)));
        says(16, "Counts the children whose garden is a given one.", () -> {
            InventedBirthdays x = Loading.of(FOUR);
            is(2, x.childrenOf(0));
            is(2, x.childrenOf(1));
            x.moveTo(3, 0);
            is(3, x.childrenOf(0));
            is(1, x.childrenOf(1));
        });
        says(16, "Returns the number of children.", () -> {
            is(0, Loading.of("registry 0 0;garden 1").childrenOf(0));
            is(10, Loading.of(children(10)).childrenOf(0));
            is(0, Loading.of(children(10) + ";garden 1").childrenOf(1));
        });
        says(16, "Throws `IndexOutOfBoundsException` if there is no such garden", () -> needsGarden((x, garden) -> x.childrenOf(garden)));
        says(17, "Tells whose party takes place in a garden on a date.", () -> {
            InventedBirthdays x = Loading.of(FOUR + ";birthday b 3 4;birthday d 3 4");
            is(1, x.partyIn(0, 3, 4));
            is(3, x.partyIn(1, 3, 4));
        });
        says(17, "- `month`: 1 to 12", () -> theCornersAre(0, (x, month, day) -> x.partyIn(0, month, day)));
        says(17, "- `day`: 1 to 30", () -> theCornersAre(0, (x, month, day) -> x.partyIn(0, month, day)));
        says(17, "Returns the child; NONE if there is none.", () -> {
            InventedBirthdays x = Loading.of(FOUR + ";birthday a 1 1;birthday d 12 30");
            is(0, x.partyIn(0, 1, 1));
            is(3, x.partyIn(1, 12, 30));
            is(-1, x.partyIn(1, 1, 1));
            is(-1, x.partyIn(0, 12, 30));
            is(-1, x.partyIn(0, 1, 2));
            is(-1, x.partyIn(0, 2, 1));
            x.forgetBirthday(0);
            is(-1, x.partyIn(0, 1, 1));
            is(-1, Loading.of("registry 0 0;garden 1").partyIn(0, 1, 1));
        });
        says(17, "Throws `IndexOutOfBoundsException` if there is no such garden", () -> needsGarden((x, garden) -> x.partyIn(garden, 1, 1)));
        says(17, "Throws `IllegalArgumentException` if month is not 1 to 12, or day is not 1 to 30", () -> {
            InventedBirthdays x = Loading.of(FOUR);
            needsDate((month, day) -> x.partyIn(0, month, day));
        });
    }

    private static void promises18To22() {
        says(18, "Returns the number of children.", () -> is(4, Loading.of(FOUR).childCount()));
        says(18, "Returns 0 to 10.", () -> {
            is(0, Loading.of("registry 0 0").childCount());
            for (int count = 1; count <= 10; count++) {
                is(count, Loading.of(children(count)).childCount());
            }
        });
        says(19, "Returns the favourite cake of a child.", () -> {
            is(0, Loading.of(FOUR).cakeOf(0));
            is(3, Loading.of(FOUR).cakeOf(3));
        });
        says(19, "Returns 0 to 5.", () -> {
            is(0, Loading.of("registry 0 0;garden 1;child a 0 1 0 0").cakeOf(0));
            is(5, Loading.of("registry 0 0;garden 1;child a 5 1 0 0").cakeOf(0));
        });
        says(19, "Throws `IndexOutOfBoundsException` if there is no such child", () -> needsChild((x, child) -> x.cakeOf(child)));
        says(20, "Returns the breath of a child.", () -> is(10, Loading.of(children(10)).breathOf(9)));
        says(20, "Returns 1 to 20.", () -> {
            is(1, Loading.of("registry 0 0;garden 1;child a 0 1 0 0").breathOf(0));
            is(20, Loading.of("registry 0 0;garden 1;child a 0 20 0 0").breathOf(0));
        });
        says(20, "Throws `IndexOutOfBoundsException` if there is no such child", () -> needsChild((x, child) -> x.breathOf(child)));
        says(21, "Returns the age of a child.", () -> {
            is(0, Loading.of("registry 0 0;garden 1;child a 0 1 0 0").ageOf(0));
            is(99, Loading.of("registry 0 0;garden 1;child b 0 1 0 0;child a 0 1 99 0").ageOf(1));
        });
        says(21, "Returns the age.", () -> is(99 + 99, Loading.atTheLastDay("garden 1;child a 0 1 99 0;birthday a 1 1;").ageOf(0)));
        says(21, "Throws `IndexOutOfBoundsException` if there is no such child", () -> needsChild((x, child) -> x.ageOf(child)));
        says(22, "Returns the garden of a child.", () -> {
            is(0, Loading.of(FOUR).gardenOf(0));
            is(1, Loading.of(FOUR).gardenOf(3));
        });
        says(22, "Returns the garden.", () -> is(3, Loading.of("registry 0 0;garden 1;garden 1;garden 1;garden 1;child a 0 1 0 3").gardenOf(0)));
        says(22, "Throws `IndexOutOfBoundsException` if there is no such child", () -> needsChild((x, child) -> x.gardenOf(child)));
    }

    private static void promises23To28() {
        says(23, "Returns the position in the year of the birthday of a child.", () -> is(63, Loading.of(FOUR + ";birthday c 3 4").birthdayOf(2)));
        says(23, "Returns 0 to 359; NONE if the child has no birthday.", () -> {
            InventedBirthdays x = Loading.of(FOUR + ";birthday a 1 1;birthday b 12 30");
            is(0, x.birthdayOf(0));
            is(359, x.birthdayOf(1));
            is(-1, x.birthdayOf(2));
            x.forgetBirthday(0);
            is(-1, x.birthdayOf(0));
        });
        says(23, "Throws `IndexOutOfBoundsException` if there is no such child", () -> needsChild((x, child) -> x.birthdayOf(child)));
        says(24, "Returns the number of days until the next birthday of a child.", () -> {
            InventedBirthdays x = Loading.of(FOUR + ";birthday a 12 30;birthday b 1 1;days 359");
            is(360, x.daysUntilBirthday(0));
            is(1, x.daysUntilBirthday(1));
        });
        says(24, "Returns 1 to 360; NONE if the child has no birthday.", () -> {
            InventedBirthdays x = Loading.of(FOUR + ";birthday a 3 1;birthday b 3 2;birthday c 2 30;days 60");
            is(360, x.daysUntilBirthday(0));
            is(1, x.daysUntilBirthday(1));
            is(359, x.daysUntilBirthday(2));
            is(-1, x.daysUntilBirthday(3));
            InventedBirthdays first = Loading.of(FOUR + ";birthday a 1 1;birthday b 12 30");
            is(360, first.daysUntilBirthday(0));
            is(359, first.daysUntilBirthday(1));
        });
        says(24, "Throws `IndexOutOfBoundsException` if there is no such child", () -> needsChild((x, child) -> x.daysUntilBirthday(child)));
        says(25, "Counts the parties that were held for a child.", () -> {
            InventedBirthdays x = Loading.of(FOUR + ";cakes 0 3;birthday a 1 2;birthday b 1 3;days 361");
            is(2, x.partiesOf(0));
            is(1, x.partiesOf(1));
            is(0, x.partiesOf(2));
        });
        says(25, "Returns the number of parties.", () -> {
            String text = "registry 0 0;garden 1;child a 0 1 0 0;birthday a 1 2";
            is(0, Loading.of(text).partiesOf(0));
            is(0, Loading.of(text + ";days 720").partiesOf(0));
            is(1, Loading.of(text + ";days 1;cakes 0 1;days 720").partiesOf(0));
        });
        says(25, "Throws `IndexOutOfBoundsException` if there is no such child", () -> needsChild((x, child) -> x.partiesOf(child)));
        says(26, "Counts the wishes of a child that were granted.", () -> {
            InventedBirthdays x = Loading.of("registry 0 5;garden 1;child a 0 9 0 0;cakes 0 9;birthday a 1 2;days 361");
            is(2, x.wishesOf(0));
            x.advance(360);
            is(2, x.wishesOf(0));
            is(3, x.partiesOf(0));
        });
        says(26, "Returns the number of wishes.", () -> {
            is(0, Loading.of(FOUR).wishesOf(0));
            is(0, Loading.of("registry 0 9;garden 1;child a 0 9 0 0;birthday a 1 2;days 1").wishesOf(0));
        });
        says(26, "Throws `IndexOutOfBoundsException` if there is no such child", () -> needsChild((x, child) -> x.wishesOf(child)));
        says(27, "Returns the strength that a party of a child would have with a cake of its favourite kind.", () -> {
            // No cake of its kind is there, and the next kind has friends of its own.
            InventedBirthdays x = Loading.of("registry 0 0;garden 9;child a 0 5 0 0;child b 1 1 0 0;child c 1 1 0 0;child d 0 1 0 0;cakes 1 9");
            is(6, x.strengthOf(0));
        });
        says(27, "Returns the breath plus the number of guests.", () -> {
            for (int seats = 1; seats <= 12; seats++) {
                InventedBirthdays x = Loading.of("registry 0 0;garden " + seats + ";" + tenChildrenLikingCake0());
                is(1 + (seats > 10 ? 9 : seats - 1), x.strengthOf(0));
                is(1 + (seats > 10 ? 9 : seats - 1), x.strengthOf(9));
            }
            is(20, Loading.of("registry 0 0;garden 12;child a 0 20 0 0;child b 1 1 0 0").strengthOf(0));
        });
        says(27, "Throws `IndexOutOfBoundsException` if there is no such child", () -> needsChild((x, child) -> x.strengthOf(child)));
        says(28, "Finds the child whose birthday comes next.", () -> {
            InventedBirthdays x = Loading.of(FOUR + ";birthday b 6 1;birthday c 5 30;birthday d 1 1");
            is(2, x.nextChild());
            x.advance(149);
            is(1, x.nextChild());
            x.advance(1);
            is(3, x.nextChild());
        });
        says(28, "Returns the child with the fewest days until its birthday, on a tie the one with the smallest number; NONE if no child has a birthday.", () -> {
            is(1, Loading.of(FOUR + ";birthday b 1 2;birthday c 1 2").nextChild());
            is(2, Loading.of(FOUR + ";birthday a 1 1;birthday c 12 30;birthday d 1 1").nextChild());
            is(0, Loading.of(FOUR + ";birthday a 1 1;birthday c 1 1").nextChild());
            is(3, Loading.of(FOUR + ";birthday d 1 1").nextChild());
            is(-1, Loading.of(FOUR).nextChild());
            is(-1, Loading.of("registry 0 0").nextChild());
        });
    }

    private static void promises29To32() {
        says(29, "Counts the children whose birthday is a date.", () -> {
            InventedBirthdays x = Loading.of(FOUR + ";birthday a 3 4;birthday c 3 4;birthday d 3 5");
            is(2, x.childrenOn(3, 4));
            is(1, x.childrenOn(3, 5));
        });
        says(29, "- `month`: 1 to 12", () -> theCornersAre(1, (x, month, day) -> x.childrenOn(month, day)));
        says(29, "- `day`: 1 to 30", () -> theCornersAre(1, (x, month, day) -> x.childrenOn(month, day)));
        says(29, "Returns the number of children.", () -> {
            is(0, Loading.of(FOUR).childrenOn(1, 1));
            is(0, Loading.of("registry 0 0").childrenOn(12, 30));
            is(4, Loading.of("registry 0 0;garden 1;garden 1;garden 1;garden 1;child a 0 1 0 0;child b 1 1 0 1;child c 2 1 0 2;child d 3 1 0 3;"
                    + "birthday a 1 1;birthday b 1 1;birthday c 1 1;birthday d 1 1").childrenOn(1, 1));
        });
        says(29, "Throws `IllegalArgumentException` if month is not 1 to 12, or day is not 1 to 30", () -> {
            InventedBirthdays x = Loading.of(FOUR);
            needsDate(x::childrenOn);
        });
        says(30, "Counts the different dates that are birthdays.", () -> {
            is(2, Loading.of(FOUR + ";birthday a 1 1;birthday b 1 2;birthday c 1 1;birthday d 1 2").differentDates());
            is(1, Loading.of(FOUR + ";birthday b 1 1;birthday d 1 1").differentDates());
        });
        says(30, "Returns the number of dates.", () -> {
            is(0, Loading.of("registry 0 0").differentDates());
            is(0, Loading.of(FOUR).differentDates());
            InventedBirthdays x = Loading.of(children(10));
            for (int child = 0; child < 10; child++) {
                x.setBirthday(child, 1, 30 - child);
            }
            is(10, x.differentDates());
            is(20, x.dateAt(9));
            fails(INDEX, () -> x.dateAt(10));
        });
        says(31, "Returns a date that is a birthday, in the order in which the children with the smallest numbers have them.", () -> {
            InventedBirthdays x = Loading.of(FOUR + ";birthday a 12 30;birthday b 1 1;birthday c 12 30;birthday d 6 1");
            is(359, x.dateAt(0));
            is(0, x.dateAt(1));
            is(150, x.dateAt(2));
        });
        says(31, "- `index`: 0 for the birthday of the first child that has one, 1 for the next different date, and so on", () -> {
            InventedBirthdays x = Loading.of(FOUR + ";birthday b 1 1;birthday d 6 1");
            is(0, x.dateAt(0));
            is(150, x.dateAt(1));
        });
        says(31, "Returns the position in the year.", () -> {
            is(0, Loading.of(FOUR + ";birthday d 1 1").dateAt(0));
            is(359, Loading.of(FOUR + ";birthday d 12 30").dateAt(0));
        });
        says(31, "Throws `IndexOutOfBoundsException` if there is no such date", () -> {
            InventedBirthdays none = Loading.of(FOUR);
            refused(INDEX, new int[] {0, 1, -1, LOW, HIGH}, none::dateAt);
            InventedBirthdays x = Loading.of(FOUR + ";birthday a 1 1;birthday b 1 2;birthday c 1 1");
            refused(INDEX, outOf(0, 1), x::dateAt);
            refused(INDEX, new int[] {0}, Loading.of("registry 0 0")::dateAt);
        });
        says(32, "Finds the month with most birthdays.", () -> {
            is(12, Loading.of(FOUR + ";birthday a 1 30;birthday b 12 1;birthday c 12 30").busiestMonth());
            is(1, Loading.of(FOUR + ";birthday a 1 30;birthday b 1 1;birthday c 12 30").busiestMonth());
            is(3, Loading.of(FOUR + ";birthday a 2 30;birthday b 3 1;birthday c 3 30;birthday d 4 1").busiestMonth());
            is(5, Loading.of(FOUR + ";birthday a 2 30;birthday b 5 1;birthday c 5 1").busiestMonth());
        });
        says(32, "Returns the month, on a tie the smallest one; NONE if no child has a birthday.", () -> {
            is(2, Loading.of(FOUR + ";birthday a 9 1;birthday b 2 1").busiestMonth());
            is(11, Loading.of(FOUR + ";birthday a 12 1;birthday b 12 2;birthday c 11 1;birthday d 11 2").busiestMonth());
            for (int month = 1; month <= 12; month++) {
                is(month, Loading.of(FOUR + ";birthday a " + month + " 1").busiestMonth());
                is(month, Loading.of(FOUR + ";birthday d " + month + " 30").busiestMonth());
            }
            is(-1, Loading.of(FOUR).busiestMonth());
            is(-1, Loading.of("registry 0 0").busiestMonth());
        });
    }

    private static void promises33To35() {
        says(33, "Tells whether there is an obstacle to a garden and a date for a child.", () -> {
            InventedBirthdays x = Loading.of(FOUR + ";birthday a 3 4");
            is(1, x.obstacle(1, 0, 3, 4));
            is(0, x.obstacle(1, 1, 3, 4));
            is(-1, x.birthdayOf(1));
        });
        says(33, "- `month`: 1 to 12", () -> theCornersAre(1, (x, month, day) -> x.obstacle(1, 0, month, day)));
        says(33, "- `day`: 1 to 30", () -> theCornersAre(1, (x, month, day) -> x.obstacle(1, 0, month, day)));
        says(33, "Returns the first reason that applies; 0 if there is no obstacle.", () -> {
            InventedBirthdays x = Loading.of("registry 0 0;garden 1;garden 2;child a 0 1 0 0;child b 1 1 0 0;child c 1 1 0 1;birthday a 1 1");
            is(1, x.obstacle(1, 0, 1, 1));
            is(2, x.obstacle(1, 0, 1, 2));
            is(0, x.obstacle(1, 1, 1, 1));
            is(0, x.obstacle(0, 0, 1, 1));
        });
        says(33, "Throws `IndexOutOfBoundsException` if there is no such child or garden", () -> {
            needsChild((x, child) -> x.obstacle(child, 0, 1, 1));
            needsGarden((x, garden) -> x.obstacle(0, garden, 1, 1));
        });
        says(33, "Throws `IllegalArgumentException` if month is not 1 to 12, or day is not 1 to 30", () -> {
            InventedBirthdays x = Loading.of(FOUR);
            needsDate((month, day) -> x.obstacle(0, 0, month, day));
        });
        says(34, "Finds a garden for a child on a date.", () -> {
            InventedBirthdays x = Loading.of(FOUR + ";birthday a 3 4");
            is(1, x.freeGarden(1, 3, 4));
            is(0, x.freeGarden(1, 3, 5));
        });
        says(34, "- `month`: 1 to 12", () -> theCornersAre(1, (x, month, day) -> x.freeGarden(1, month, day)));
        says(34, "- `day`: 1 to 30", () -> theCornersAre(1, (x, month, day) -> x.freeGarden(1, month, day)));
        says(34, "Returns the smallest garden to which there is no obstacle; NONE if there is none.", () -> {
            InventedBirthdays x = Loading.of("registry 0 0;garden 1;garden 2;garden 2;garden 2;child a 0 1 0 1;child b 0 1 0 2;child c 1 1 0 3;child d 1 1 0 3;birthday a 1 1");
            is(2, x.freeGarden(1, 1, 1));
            is(1, x.freeGarden(0, 1, 1));
            is(1, x.freeGarden(1, 1, 2));
            x.setBirthday(1, 1, 1);
            is(3, x.freeGarden(2, 1, 1));
            x.setBirthday(2, 1, 1);
            is(-1, x.freeGarden(3, 1, 1));
            is(3, x.freeGarden(2, 1, 1));
            is(-1, Loading.of("registry 0 0;garden 1;child a 0 1 0 0;child b 0 1 0 0").freeGarden(0, 1, 1));
        });
        says(34, "Throws `IndexOutOfBoundsException` if there is no such child", () -> needsChild((x, child) -> x.freeGarden(child, 1, 1)));
        says(34, "Throws `IllegalArgumentException` if month is not 1 to 12, or day is not 1 to 30", () -> {
            InventedBirthdays x = Loading.of(FOUR);
            needsDate((month, day) -> x.freeGarden(0, month, day));
        });
        says(35, "Counts the draws that drawing a birthday for a child would need now.", () -> {
            InventedBirthdays x = Loading.of(PAIR + "birthday a 4 8");
            is(2, x.drawsNeeded(1));
            is(0, x.seed());
            is(-1, x.birthdayOf(1));
            x.moveTo(1, 1);
            is(1, x.drawsNeeded(1));
        });
        says(35, "Returns 1 to 20; NONE if no date would be found.", () -> {
            is(1, Loading.of(FOUR).drawsNeeded(0));
            is(-1, Loading.of("registry 5176 0;garden 2;child a 0 1 0 0;child b 0 1 0 0;birthday a 5 17").drawsNeeded(1));
            is(-1, Loading.of("registry 0 0;garden 1;child a 0 1 0 0;child b 0 1 0 0").drawsNeeded(0));
        });
        says(35, "Throws `IndexOutOfBoundsException` if there is no such child", () -> needsChild((x, child) -> x.drawsNeeded(child)));
    }

    private static void promises36And37() {
        String text = "registry 0 30;garden 1;child a 0 20 4 0;cakes 0 3;birthday a 1 3";
        says(36, "Forecasts the stock of candles.", () -> {
            InventedBirthdays x = Loading.of(text);
            is(30, x.candlesAfter(1));
            is(25, x.candlesAfter(2));
            is(25, x.candlesAfter(361));
            is(19, x.candlesAfter(362));
            is(19, x.candlesAfter(720));
            is(0, Loading.of(text.replace("registry 0 30", "registry 0 3")).candlesAfter(2));
            is(30, Loading.of(text.replace(";cakes 0 3", "")).candlesAfter(2));
        });
        says(36, "The year may exceed 99 in the forecast.", () -> {
            InventedBirthdays x = Loading.atTheLastDay("garden 1;child a 0 20 4 0;");
            x.setBirthday(0, 1, 1);
            x.bakeCakes(0, 9);
            x.buyCandles(99);
            is(94, x.candlesAfter(1));
            is(94, x.candlesAfter(360));
            is(88, x.candlesAfter(361));
            is(88, x.candlesAfter(720));
            is(99, x.year());
        });
        says(36, "- `days`: 0 to 720", () -> {
            is(30, Loading.of(text).candlesAfter(0));
            is(19, Loading.of(text).candlesAfter(720));
        });
        says(36, "Returns the stock after so many days.", () -> {
            InventedBirthdays x = Loading.of(text);
            String before = seen(x);
            int[] days = {0, 1, 2, 361, 362, 720};
            int[] due = new int[days.length];
            for (int i = 0; i < days.length; i++) {
                due[i] = x.candlesAfter(days[i]);
            }
            same(before, seen(x));
            fails(STATE, x::undo);
            for (int i = 1; i < days.length; i++) {
                x.advance(days[i] - days[i - 1]);
                is(due[i], x.candles());
            }
        });
        says(36, "Throws `IllegalArgumentException` if days is out of range", () -> refused(ARGUMENT, outOf(0, 720), Loading.of(text)::candlesAfter));
        says(37, "Forecasts the number of granted wishes of a child.", () -> {
            InventedBirthdays x = Loading.of(text);
            is(0, x.wishesAfter(0, 1));
            is(1, x.wishesAfter(0, 2));
            is(1, x.wishesAfter(0, 361));
            is(2, x.wishesAfter(0, 362));
            is(0, Loading.of(text.replace("registry 0 30", "registry 0 4")).wishesAfter(0, 2));
        });
        says(37, "The year may exceed 99 in the forecast.", () -> {
            InventedBirthdays x = Loading.atTheLastDay("garden 1;child a 0 20 4 0;");
            x.setBirthday(0, 1, 1);
            x.bakeCakes(0, 9);
            x.buyCandles(99);
            is(1, x.wishesAfter(0, 1));
            is(1, x.wishesAfter(0, 360));
            is(2, x.wishesAfter(0, 361));
            is(2, x.wishesAfter(0, 720));
            is(99, x.year());
        });
        says(37, "- `days`: 0 to 720", () -> {
            is(0, Loading.of(text).wishesAfter(0, 0));
            is(2, Loading.of(text).wishesAfter(0, 720));
        });
        says(37, "Returns the number after so many days.", () -> {
            InventedBirthdays x = Loading.of(text + ";days 2");
            String before = seen(x);
            is(1, x.wishesAfter(0, 0));
            is(2, x.wishesAfter(0, 360));
            is(3, x.wishesAfter(0, 720));
            same(before, seen(x));
            fails(STATE, x::undo);
        });
        says(37, "Throws `IndexOutOfBoundsException` if there is no such child", () -> needsChild((x, child) -> x.wishesAfter(child, 1)));
        says(37, "Throws `IllegalArgumentException` if days is out of range", () -> {
            InventedBirthdays x = Loading.of(text);
            refused(ARGUMENT, outOf(0, 720), days -> x.wishesAfter(0, days));
        });
    }

    private static void promises38To43() {
        String text = "registry 0 5;garden 2;garden 2;child a 0 9 0 0;child b 0 1 2 1;cakes 0 3;birthday a 1 2;birthday b 1 2";
        says(38, "Counts the parties that were held.", () -> {
            is(2, Loading.of(text + ";days 1").heldParties());
            is(3, Loading.of(text + ";days 720").heldParties());
        });
        says(38, "Returns the number of parties.", () -> {
            is(0, Loading.of("registry 0 0").heldParties());
            is(0, Loading.of(text).heldParties());
            is(2, new InventedBirthdays().heldParties());
        });
        says(39, "Counts the parties that failed.", () -> {
            is(0, Loading.of(text + ";days 360").failedParties());
            is(1, Loading.of(text + ";days 361").failedParties());
        });
        says(39, "Returns the number of parties.", () -> {
            is(0, Loading.of("registry 0 0").failedParties());
            is(4, Loading.of(text.replace("cakes 0 3;", "") + ";days 720").failedParties());
            is(0, Loading.of("registry 0 0;garden 1;child a 0 1 0 0;birthday a 1 1;days 359").failedParties());
            is(1, Loading.of("registry 0 0;garden 1;child a 0 1 0 0;birthday a 1 1;days 360").failedParties());
        });
        says(40, "Checks the gardens.", () -> is(0, Loading.of(text).clashes()));
        says(40, "Returns the number of pairs of children with the same garden and the same birthday; always 0.", () -> {
            is(0, Loading.of("registry 0 0").clashes());
            is(0, Loading.of(FOUR).clashes());
            InventedBirthdays x = Loading.of(children(10));
            for (int child = 0; child < 10; child++) {
                x.draw(child);
            }
            is(0, x.clashes());
            is(10, x.differentDates());
        });
        says(41, "Checks the candles.", () -> is(0, Loading.of(text).candleDifference()));
        says(41, "Returns the absolute value of the stock minus the stock at the beginning, minus the candles that were bought, "
                + "plus the candles that were lit; always 0.", () -> {
            InventedBirthdays x = Loading.of(text);
            is(0, x.candleDifference());
            x.advance(1);
            is(0, x.candleDifference());
            x.buyCandles(999);
            is(0, x.candleDifference());
            x.save(0);
            x.undo();
            is(0, x.candleDifference());
            x.undo();
            is(0, x.candleDifference());
            x.restore(0);
            is(0, x.candleDifference());
            Loading.load(x, "registry 0 9999");
            is(0, x.candleDifference());
            is(0, new InventedBirthdays().candleDifference());
        });
        says(42, "Returns the mean age of the children.", () -> {
            is(1.0, Loading.of(text).meanAge());
            is(0.0, Loading.of("registry 0 0;garden 1;child a 0 1 0 0").meanAge());
        });
        says(42, "Returns the sum of the ages as a double, divided by the number of children as a double; 0.0 without children.", () -> {
            is(100.0 / 3.0, Loading.of("registry 0 0;garden 1;child a 0 1 99 0;child b 0 1 1 0;child c 0 1 0 0").meanAge());
            is(1.0 / 7.0, Loading.of(children(7).replace("child a 0 1 0", "child a 0 1 1")).meanAge());
            is(0.0, Loading.of("registry 0 0").meanAge());
            is(0.0, Loading.of("registry 0 0;garden 1").meanAge());
        });
        says(43, "Returns the share of the held parties at which the wish was granted.", () -> {
            is(0.5, Loading.of(text + ";days 1").wishShare());
            is(1.0, Loading.of(text.replace("child b 0 1", "child b 0 2") + ";days 1").wishShare());
        });
        says(43, "Returns the number of granted wishes as a float, divided by the number of held parties as a float; 0.0f if no party was held.", () -> {
            is(0.0, Loading.of("registry 0 0").wishShare());
            is(0.0, Loading.of(text.replace("cakes 0 3;", "") + ";days 1").wishShare());
            is(0.0, Loading.of(text.replace("registry 0 5", "registry 0 0") + ";days 1").wishShare());
            is(1.0f / 3.0f, new InventedBirthdays(), x -> {
                x.buyCandles(20);
                x.bakeCakes(2, 9);
                x.advance(130);
                return x.wishShare();
            });
        });
    }

    private static void promises44And45() {
        String text = "registry 0 9;garden 2;child a 0 9 0 0;child b 0 9 0 0;cakes 0 3;birthday a 1 2;birthday b 1 3";
        says(44, "Lets days pass.", () -> {
            InventedBirthdays x = Loading.of(text);
            x.advance(1);
            is(2, x.dayOfMonth());
            is(1, x.ageOf(0));
            is(0, x.ageOf(1));
        });
        says(44, "- `days`: 1 to 720", () -> {
            InventedBirthdays x = Loading.of(text);
            is(1, x.advance(1));
            is(2, x.advance(720));
            is(2, x.year());
        });
        says(44, "Returns the number of parties that were held.", () -> {
            InventedBirthdays x = Loading.of(text);
            is(2, x.advance(2));
            is(0, x.advance(358));
            is(1, x.advance(2));
            is(0, x.advance(720));
            is(3, x.heldParties());
            is(0, Loading.of("registry 0 0").advance(720));
            is(1, Loading.of(text.replace("birthday a 1 2", "birthday a 1 1") + ";days 359").advance(1));
        });
        says(44, "Throws `IllegalArgumentException` if days is out of range", () -> refused(ARGUMENT, outOf(1, 720), Loading.of(text)::advance));
        says(44, "Throws `IllegalStateException` if the year would exceed 99", () -> {
            InventedBirthdays x = Loading.atTheLastDay("");
            fails(STATE, () -> x.advance(1));
            fails(STATE, () -> x.advance(720));
            InventedBirthdays early = Loading.of("registry 0 0" + ";days 720".repeat(49));
            fails(STATE, () -> early.advance(720));
            is(0, early.advance(719));
            fails(STATE, () -> early.advance(1));
            early.undo();
            is(0, early.advance(360));
            fails(STATE, () -> early.advance(360));
            is(0, early.advance(359));
            is(99, early.year());
        });
        says(45, "Draws a birthday for a child.", () -> {
            InventedBirthdays x = Loading.of(FOUR);
            x.draw(3);
            is(134, x.birthdayOf(3));
            is(1574, x.seed());
            is(-1, x.birthdayOf(0));
        });
        says(45, "Returns the number of dates that were drawn.", () -> {
            is(1, Loading.of(FOUR).draw(0));
            is(2, Loading.of(PAIR + "birthday a 4 8").draw(1));
            is(1, Loading.of(PAIR + "birthday a 4 8").draw(0));
        });
        says(45, "Throws `IndexOutOfBoundsException` if there is no such child", () -> needsChild((x, child) -> x.draw(child)));
        says(45, "Throws `IllegalStateException` if no date is found", () -> {
            InventedBirthdays small = Loading.of("registry 3 0;garden 1;child a 0 1 0 0;child b 0 1 0 0");
            fails(STATE, () -> small.draw(0));
            is(3, small.seed());
            InventedBirthdays forEver = Loading.of("registry 5176 0;garden 2;child a 0 1 0 0;child b 0 1 0 0;birthday a 5 17");
            fails(STATE, () -> forEver.draw(1));
            is(-1, forEver.birthdayOf(1));
        });
    }

    private static void promises46To48() {
        says(46, "Gives a child a birthday.", () -> {
            InventedBirthdays x = Loading.of(FOUR);
            x.setBirthday(3, 3, 4);
            is(63, x.birthdayOf(3));
            x.setBirthday(3, 12, 30);
            is(359, x.birthdayOf(3));
            is(0, x.childrenOn(3, 4));
        });
        says(46, "- `month`: 1 to 12", () -> {
            InventedBirthdays x = Loading.of(FOUR);
            for (int month = 1; month <= 12; month++) {
                x.setBirthday(0, month, 1);
                is(month * 30 - 30, x.birthdayOf(0));
            }
        });
        says(46, "- `day`: 1 to 30", () -> {
            InventedBirthdays x = Loading.of(FOUR);
            for (int day = 1; day <= 30; day++) {
                x.setBirthday(0, 1, day);
                is(day - 1, x.birthdayOf(0));
            }
        });
        says(46, "Returns the number of days until this birthday, 1 to 360.", () -> {
            InventedBirthdays x = Loading.of(FOUR + ";days 60");
            is(360, x.setBirthday(0, 3, 1));
            is(1, x.setBirthday(0, 3, 2));
            is(359, x.setBirthday(0, 2, 30));
            is(300, x.setBirthday(0, 1, 1));
            is(299, x.setBirthday(0, 12, 30));
            InventedBirthdays last = Loading.of(FOUR + ";days 359");
            is(1, last.setBirthday(0, 1, 1));
            is(360, last.setBirthday(0, 12, 30));
            is(359, last.setBirthday(0, 12, 29));
        });
        says(46, "Throws `IndexOutOfBoundsException` if there is no such child", () -> needsChild((x, child) -> x.setBirthday(child, 1, 1 + Math.floorMod(child, 30))));
        says(46, "Throws `IllegalArgumentException` if month is not 1 to 12, or day is not 1 to 30", () -> {
            InventedBirthdays x = Loading.of(FOUR);
            needsDate((month, day) -> x.setBirthday(0, month, day));
        });
        says(46, "Throws `IllegalStateException` if there is an obstacle to the garden of the child and this date", () -> {
            InventedBirthdays x = Loading.of(PAIR + "child c 1 1 0 1;birthday a 3 4;birthday c 3 5");
            fails(STATE, () -> x.setBirthday(1, 3, 4));
            is(-1, x.birthdayOf(1));
            is(64, x.setBirthday(1, 3, 5));
            is(63, x.setBirthday(0, 3, 4));
            fails(STATE, () -> x.setBirthday(0, 3, 5));
            is(63, x.birthdayOf(0));
            InventedBirthdays small = Loading.of("registry 0 0;garden 2;garden 1;child a 0 1 0 1;child b 0 1 0 0");
            fails(STATE, () -> small.setBirthday(0, 1, 1));
            is(360, small.setBirthday(1, 1, 1));
        });
        says(47, "Takes the birthday of a child away, if it has one.", () -> {
            InventedBirthdays x = Loading.of(FOUR + ";cakes 0 9;birthday a 1 2;birthday d 1 2");
            x.forgetBirthday(0);
            is(-1, x.birthdayOf(0));
            is(1, x.birthdayOf(3));
            is(1, x.advance(1));
        });
        says(47, "Returns its position in the year; NONE if the child had no birthday.", () -> {
            InventedBirthdays x = Loading.of(FOUR + ";birthday a 1 1;birthday b 12 30");
            is(0, x.forgetBirthday(0));
            is(-1, x.forgetBirthday(0));
            is(359, x.forgetBirthday(1));
            is(-1, x.forgetBirthday(2));
            is(3, x.undo());
        });
        says(47, "Throws `IndexOutOfBoundsException` if there is no such child", () -> needsChild((x, child) -> x.forgetBirthday(child)));
        says(48, "Gives a child another garden, or the same one.", () -> {
            InventedBirthdays x = Loading.of(FOUR + ";birthday a 1 2");
            x.moveTo(0, 1);
            is(1, x.gardenOf(0));
            x.moveTo(0, 1);
            is(1, x.gardenOf(0));
            is(1, x.birthdayOf(0));
        });
        says(48, "Returns the previous garden.", () -> {
            InventedBirthdays x = Loading.of("registry 0 0;garden 1;garden 1;garden 1;garden 1;child a 0 1 0 3");
            is(3, x.moveTo(0, 0));
            is(0, x.moveTo(0, 0));
            is(0, x.moveTo(0, 3));
            is(3, x.moveTo(0, 2));
        });
        says(48, "Throws `IndexOutOfBoundsException` if there is no such child or garden", () -> {
            needsChild((x, child) -> x.moveTo(child, 0));
            needsGarden((x, garden) -> x.moveTo(0, garden));
        });
        says(48, "Throws `IllegalStateException` if the child has a birthday and there is an obstacle to the garden and this date", () -> {
            InventedBirthdays x = Loading.of("registry 0 0;garden 2;garden 2;garden 1;child a 0 1 0 0;child b 0 1 0 1;child c 1 1 0 1;birthday a 3 4;birthday b 3 4");
            fails(STATE, () -> x.moveTo(0, 1));
            fails(STATE, () -> x.moveTo(0, 2));
            is(0, x.gardenOf(0));
            is(0, x.moveTo(0, 0));
            is(1, x.moveTo(2, 2));
            x.setBirthday(1, 3, 5);
            is(0, x.moveTo(0, 1));
            x.forgetBirthday(0);
            is(1, x.moveTo(0, 2));
            // Its own garden is too small for it by now.
            InventedBirthdays grown = Loading.of("registry 0 0;garden 1;child a 0 1 0 0;birthday a 1 5;child b 0 1 0 0");
            fails(STATE, () -> grown.moveTo(0, 0));
            is(0, grown.moveTo(1, 0));
        });
    }

    private static void promises49And50() {
        says(49, "Buys candles.", () -> {
            InventedBirthdays x = Loading.of("registry 0 5");
            x.buyCandles(3);
            is(8, x.candles());
        });
        says(49, "- `number`: 1 to 999", () -> {
            is(1, Loading.of("registry 0 0").buyCandles(1));
            is(999, Loading.of("registry 0 0").buyCandles(999));
        });
        says(49, "Returns the stock afterwards.", () -> {
            InventedBirthdays x = Loading.of("registry 0 9000");
            is(9001, x.buyCandles(1));
            is(9999, x.buyCandles(998));
        });
        says(49, "Throws `IllegalArgumentException` if number is out of range", () -> refused(ARGUMENT, outOf(1, 999), Loading.of("registry 0 0")::buyCandles));
        says(49, "Throws `IllegalStateException` if the stock would exceed 9999", () -> {
            InventedBirthdays x = Loading.of("registry 0 9998");
            fails(STATE, () -> x.buyCandles(2));
            fails(STATE, () -> x.buyCandles(999));
            is(9999, x.buyCandles(1));
            fails(STATE, () -> x.buyCandles(1));
            is(9999, x.candles());
        });
        says(50, "Bakes cakes of a kind.", () -> {
            InventedBirthdays x = Loading.of("registry 0 0");
            x.bakeCakes(5, 3);
            is(3, x.cakes(5));
            is(0, x.cakes(4));
        });
        says(50, "- `kind`: 0 to 5", () -> {
            InventedBirthdays x = Loading.of("registry 0 0");
            for (int kind = 0; kind <= 5; kind++) {
                is(kind + 1, x.bakeCakes(kind, kind + 1));
                is(kind + 1, x.cakes(kind));
            }
        });
        says(50, "- `number`: 1 to 99", () -> {
            is(1, Loading.of("registry 0 0").bakeCakes(0, 1));
            is(99, Loading.of("registry 0 0").bakeCakes(5, 99));
        });
        says(50, "Returns the stock of this kind afterwards.", () -> {
            InventedBirthdays x = Loading.of("registry 0 0;cakes 0 1;cakes 5 50");
            is(51, x.bakeCakes(5, 1));
            is(99, x.bakeCakes(0, 98));
        });
        says(50, "Throws `IllegalArgumentException` if kind or number is out of range", () -> {
            InventedBirthdays x = Loading.of("registry 0 0");
            refused(ARGUMENT, outOf(0, 5), kind -> x.bakeCakes(kind, 1));
            refused(ARGUMENT, outOf(1, 99), number -> x.bakeCakes(0, number));
            fails(ARGUMENT, () -> x.bakeCakes(6, 0));
        });
        says(50, "Throws `IllegalStateException` if the stock would exceed 99", () -> {
            InventedBirthdays x = Loading.of("registry 0 0;cakes 5 98");
            fails(STATE, () -> x.bakeCakes(5, 2));
            fails(STATE, () -> x.bakeCakes(5, 99));
            is(99, x.bakeCakes(5, 1));
            fails(STATE, () -> x.bakeCakes(5, 1));
            is(99, x.cakes(5));
            is(99, x.bakeCakes(4, 99));
        });
    }

    private static void promises51To53() {
        says(51, "Restores a saved state.", () -> {
            for (ObjectCall change : changes()) {
                InventedBirthdays x = refusing();
                String saved = seen(x);
                x.save(1);
                change.answer(x);
                different(saved, seen(x));
                x.restore(1);
                same(saved, seen(x));
            }
        });
        says(51, "The state stays saved.", () -> {
            InventedBirthdays x = Loading.of("registry 0 5");
            x.save(0);
            for (int i = 0; i < 12; i++) {
                x.buyCandles(9);
                x.restore(0);
                is(5, x.candles());
            }
            x.undo();
            is(14, x.candles());
            x.restore(0);
            is(5, x.candles());
        });
        says(51, "- `slot`: 0 or 1", () -> {
            InventedBirthdays x = Loading.of("registry 0 5");
            x.save(0);
            x.advance(720);
            x.save(1);
            is(0, x.restore(0));
            is(2, x.restore(1));
        });
        says(51, "Returns the year of the restored state.", () -> {
            InventedBirthdays x = Loading.atTheLastDay("");
            x.save(0);
            x.undo();
            is(98, x.year());
            is(99, x.restore(0));
            is(99, x.year());
            InventedBirthdays first = Loading.of("registry 0 0");
            first.save(1);
            first.advance(720);
            is(0, first.restore(1));
        });
        says(51, "Throws `IndexOutOfBoundsException` if slot is neither 0 nor 1", () -> {
            InventedBirthdays x = Loading.of("registry 0 5");
            x.save(0);
            x.save(1);
            refused(INDEX, outOf(0, 1), x::restore);
        });
        says(51, "Throws `IllegalStateException` if nothing is saved in the slot", () -> {
            InventedBirthdays x = new InventedBirthdays();
            fails(STATE, () -> x.restore(0));
            fails(STATE, () -> x.restore(1));
            x.save(0);
            fails(STATE, () -> x.restore(1));
            is(0, x.restore(0));
            InventedBirthdays other = new InventedBirthdays();
            other.save(1);
            fails(STATE, () -> other.restore(0));
            is(0, other.restore(1));
        });
        says(52, "Undoes the last recorded change that has not been undone.", () -> {
            InventedBirthdays x = Loading.of("registry 0 0");
            x.buyCandles(1);
            x.buyCandles(2);
            x.buyCandles(4);
            x.undo();
            is(3, x.candles());
            x.undo();
            is(1, x.candles());
            x.buyCandles(8);
            is(9, x.candles());
            x.undo();
            is(1, x.candles());
            x.undo();
            is(0, x.candles());
            fails(STATE, x::undo);
        });
        says(52, "Returns the number of changes that can still be undone.", () -> {
            InventedBirthdays x = Loading.of("registry 0 0");
            for (int i = 0; i < 13; i++) {
                x.buyCandles(1);
            }
            for (int left = 9; left >= 0; left--) {
                is(left, x.undo());
            }
            x.buyCandles(1);
            is(0, x.undo());
        });
        says(52, "Throws `IllegalStateException` if there is no change to undo", () -> {
            fails(STATE, new InventedBirthdays()::undo);
            InventedBirthdays x = Loading.of(REFUSING + ";days 1");
            fails(STATE, x::undo);
            x.save(0);
            fails(STATE, x::undo);
            x.buyCandles(1);
            is(0, x.undo());
            fails(STATE, x::undo);
        });
        says(53, "Saves the state that undo() restores in a slot and replaces what was saved there.", () -> {
            InventedBirthdays x = Loading.of("registry 0 5");
            x.save(0);
            x.save(1);
            x.buyCandles(1);
            x.save(0);
            x.buyCandles(1);
            x.restore(0);
            is(6, x.candles());
            x.restore(1);
            is(5, x.candles());
            // The buffers and the reported error are no part of it.
            InventedBirthdays buffers = refusing();
            fails(ARGUMENT, () -> buffers.load(20));
            buffers.append(0, 0, 0, 0, 0);
            buffers.restore(0);
            is(1, buffers.errorKind());
            is(19, buffers.errorOffset());
            written("5.1.0", buffers, 5);
            is(40, buffers.append(0, 0, 0, 0, 0));
        });
        says(53, "This is not a change.", () -> {
            InventedBirthdays x = Loading.of("registry 0 5");
            x.buyCandles(1);
            x.save(0);
            x.save(1);
            is(0, x.undo());
            is(5, x.candles());
            x.save(0);
            fails(STATE, x::undo);
        });
        says(53, "- `slot`: 0 or 1", () -> {
            InventedBirthdays x = Loading.of("registry 0 5");
            is(0, x.save(0));
            is(0, x.save(1));
        });
        says(53, "Returns the year of the saved state.", () -> {
            is(0, Loading.of("registry 0 0;days 359").save(0));
            is(1, Loading.of("registry 0 0;days 360").save(1));
            is(99, Loading.atTheLastDay("").save(0));
        });
        says(53, "Throws `IndexOutOfBoundsException` if slot is neither 0 nor 1", () -> refused(INDEX, outOf(0, 1), Loading.of("registry 0 5")::save));
    }

    private static void promises54To56() {
        says(54, "Writes a child to the output buffer and replaces its content: the name, a space (byte 32), the age, and, if the child has a birthday, "
                + "a space, the month, a slash (byte 47) and the day.", () -> {
            InventedBirthdays x = Loading.of("registry 0 0;garden 9;child zyxwvu 0 1 99 0;child a 0 1 0 0;child bz 0 1 10 0;child c 0 1 9 0;"
                    + "birthday zyxwvu 12 30;birthday bz 1 1;birthday c 9 10");
            written("zyxwvu 99 12/30", x, x.writeChild(0));
            written("a 0", x, x.writeChild(1));
            written("bz 10 1/1", x, x.writeChild(2));
            written("c 9 9/10", x, x.writeChild(3));
            x.advance(359);
            written("zyxwvu 100 12/30", x, x.writeChild(0));
            written("bz 10 1/1", x, x.writeChild(2));
            x.forgetBirthday(2);
            written("bz 10", x, x.writeChild(2));
            InventedBirthdays oldest = Loading.atTheLastDay("garden 9;child abcdef 0 1 99 0;birthday abcdef 12 30;");
            written("abcdef 199 12/30", oldest, oldest.writeChild(0));
        });
        says(54, "Returns the length of the output.", () -> {
            InventedBirthdays x = Loading.of("registry 0 0;garden 9;child a 0 1 0 0;child abcdef 0 1 99 0;birthday abcdef 12 30");
            is(3, x.writeChild(0));
            is(15, x.writeChild(1));
            x.advance(359);
            is(16, x.writeChild(1));
        });
        says(54, "Throws `IndexOutOfBoundsException` if there is no such child", () -> needsChild((x, child) -> x.writeChild(child)));
        says(55, "Writes the present date to the output buffer and replaces its content: the day, a full stop (byte 46), the month, a full stop and the year.", () -> {
            InventedBirthdays x = Loading.of("registry 0 0");
            written("1.1.0", x, x.writeDate());
            x.advance(359);
            written("30.12.0", x, x.writeDate());
            x.advance(1);
            written("1.1.1", x, x.writeDate());
            x.advance(9);
            written("10.1.1", x, x.writeDate());
            x.advance(291);
            written("1.11.1", x, x.writeDate());
            InventedBirthdays last = Loading.atTheLastDay("");
            written("30.12.99", last, last.writeDate());
            InventedBirthdays ten = Loading.of("registry 0 0" + ";days 720".repeat(5));
            written("1.1.10", ten, ten.writeDate());
        });
        says(55, "Returns the length of the output.", () -> {
            is(5, Loading.of("registry 0 0").writeDate());
            is(7, Loading.of("registry 0 0;days 359").writeDate());
            is(8, Loading.atTheLastDay("").writeDate());
        });
        says(56, "Returns a byte of the output buffer.", () -> {
            InventedBirthdays x = new InventedBirthdays();
            x.writeDate();
            is('5', x.outputByte(0));
            is('.', x.outputByte(1));
            is('0', x.outputByte(4));
        });
        says(56, "- `index`: the index, from 0", () -> {
            InventedBirthdays x = new InventedBirthdays();
            x.writeChild(0);
            is('a', x.outputByte(0));
            is('5', x.outputByte(8));
        });
        says(56, "Returns the byte.", () -> {
            InventedBirthdays x = new InventedBirthdays();
            x.writeChild(0);
            is(32, x.outputByte(3));
            is(47, x.outputByte(7));
            x.writeDate();
            is(46, x.outputByte(3));
        });
        says(56, "Throws `IndexOutOfBoundsException` if there is no such byte", () -> {
            InventedBirthdays x = Loading.of("registry 0 0;garden 9;child abcdef 0 1 99 0;birthday abcdef 12 30;days 359");
            refused(INDEX, new int[] {0, -1, LOW, HIGH}, x::outputByte);
            x.writeChild(0);
            refused(INDEX, outOf(0, 15), x::outputByte);
            is('0', x.outputByte(15));
            x.writeDate();
            refused(INDEX, outOf(0, 6), x::outputByte);
            is('0', x.outputByte(6));
        });
    }

    // ---- children, gardens and dates that are not there

    private static void needsChild(ObjectNumberCall call) {
        InventedBirthdays four = Loading.of(FOUR);
        refused(INDEX, outOf(0, 3), child -> call.answer(four, child));
        call.answer(four, 0);
        call.answer(four, 3);
        InventedBirthdays ten = Loading.of(children(10));
        refused(INDEX, outOf(0, 9), child -> call.answer(ten, child));
        call.answer(ten, 9);
        Loading.load(ten, FOUR);
        refused(INDEX, new int[] {4, 9}, child -> call.answer(ten, child));
        InventedBirthdays none = Loading.of("registry 0 0;garden 1");
        refused(INDEX, new int[] {0, 1, -1, LOW, HIGH}, child -> call.answer(none, child));
    }

    private static void needsGarden(ObjectNumberCall call) {
        InventedBirthdays two = Loading.of(FOUR);
        refused(INDEX, outOf(0, 1), garden -> call.answer(two, garden));
        call.answer(two, 0);
        call.answer(two, 1);
        InventedBirthdays four = Loading.of("registry 0 0;garden 1;garden 1;garden 1;garden 1;child a 0 1 0 0");
        refused(INDEX, outOf(0, 3), garden -> call.answer(four, garden));
        call.answer(four, 3);
        Loading.load(four, FOUR);
        refused(INDEX, new int[] {2, 3}, garden -> call.answer(four, garden));
        InventedBirthdays none = Loading.of("registry 0 0");
        refused(INDEX, new int[] {0, 1, -1, LOW, HIGH}, garden -> call.answer(none, garden));
    }

    private static void needsDate(DateCall call) {
        for (int wrong : outOf(1, 12)) {
            fails(ARGUMENT, () -> call.answer(wrong, 1));
            fails(ARGUMENT, () -> call.answer(wrong, 30));
            fails(ARGUMENT, () -> call.answer(wrong, 0));
        }
        for (int wrong : outOf(1, 30)) {
            fails(ARGUMENT, () -> call.answer(1, wrong));
            fails(ARGUMENT, () -> call.answer(12, wrong));
            fails(ARGUMENT, () -> call.answer(13, wrong));
        }
        call.answer(1, 1);
        call.answer(1, 30);
        call.answer(12, 1);
        call.answer(12, 30);
    }

    /** The first child's birthday is put into each corner of the calendar, and the call is asked for this date. */
    private static void theCornersAre(double due, ObjectDateCall call) {
        for (int month : new int[] {1, 2, 11, 12}) {
            for (int day : new int[] {1, 2, 29, 30}) {
                is(due, call.answer(Loading.of(FOUR + ";birthday a " + month + " " + day), month, day));
            }
        }
    }

    private static int[] outOf(int least, int most) {
        return new int[] {LOW, least - 1, most + 1, HIGH};
    }

    private static void refused(Class<? extends RuntimeException> due, int[] numbers, NumberCall call) {
        for (int number : numbers) {
            fails(due, () -> call.answer(number));
        }
    }

    // ---- texts

    /** So many children like cake 0, the first has a breath of 1, the next of 2. */
    private static String children(int count) {
        StringBuilder text = new StringBuilder("registry 0 0;garden 12");
        for (int child = 0; child < count; child++) {
            text.append(";child ").append((char) ('a' + child)).append(" 0 ").append(child + 1).append(" 0 0");
        }
        return text.toString();
    }

    private static String tenChildrenLikingCake0() {
        StringBuilder text = new StringBuilder("child a 0 1 0 0");
        for (char name = 'b'; name <= 'j'; name++) {
            text.append(";child ").append(name).append(" 0 1 0 0");
        }
        return text.toString();
    }

    private static void good(String text) {
        InventedBirthdays x = new InventedBirthdays();
        try {
            Loading.load(x, text);
        } catch (IllegalArgumentException e) {
            complain(text, "kind " + x.errorKind() + " at " + x.errorOffset(), "no error");
        }
        is(0, x.errorKind());
        is(-1, x.errorOffset());
    }

    /** The sign ^ stands before the token that is wrong, and is no part of the text. */
    private static void error(int kind, String marked) {
        errorAt(kind, marked.indexOf('^'), marked.replaceFirst("\\^", ""));
    }

    private static void errorAt(int kind, int offset, String text) {
        checks++;
        InventedBirthdays x = new InventedBirthdays();
        Loading.fill(x, text);
        String due = "kind " + kind + " at " + offset;
        try {
            x.load(text.length());
            complain(text, "no error", due);
        } catch (IllegalArgumentException e) {
            String got = "kind " + x.errorKind() + " at " + x.errorOffset();
            if (!got.equals(due)) {
                complain(text, got, due);
            }
        }
    }

    private static void replaced(String text, String pattern, String by, int kind) {
        replaced(text, pattern, by, kind, 0);
    }

    /** Each part that has the pattern is replaced alone, and is the error, so many bytes behind its beginning. */
    private static void replaced(String text, String pattern, String by, int kind, int behind) {
        Matcher matcher = Pattern.compile(pattern).matcher(text);
        while (matcher.find()) {
            errorAt(kind, matcher.start() + behind, text.substring(0, matcher.start()) + by + text.substring(matcher.end()));
        }
    }

    /** All that can be asked of the state without altering it, some hundred calls. */
    private static String seen(InventedBirthdays x) {
        StringBuilder s = new StringBuilder();
        add(s, "date", x.year(), x.month(), x.dayOfMonth());
        add(s, "seed", x.seed(), x.nextDraw());
        add(s, "stock", x.candles(), x.cakes(0), x.cakes(1), x.cakes(2), x.cakes(3), x.cakes(4), x.cakes(5));
        int gardens = x.gardenCount();
        for (int garden = 0; garden < gardens; garden++) {
            add(s, "garden", x.seatsOf(garden), x.childrenOf(garden));
        }
        int children = x.childCount();
        for (int child = 0; child < children; child++) {
            add(s, "child", x.cakeOf(child), x.breathOf(child), x.ageOf(child), x.gardenOf(child), x.birthdayOf(child), x.daysUntilBirthday(child),
                    x.partiesOf(child), x.wishesOf(child), x.strengthOf(child), x.drawsNeeded(child));
        }
        int dates = x.differentDates();
        for (int index = 0; index < dates; index++) {
            add(s, "date", x.dateAt(index));
        }
        add(s, "found", x.nextChild(), x.mostWantedCake(), x.busiestMonth());
        add(s, "counted", x.heldParties(), x.failedParties(), x.clashes(), x.candleDifference(), x.meanAge(), x.wishShare());
        return s.toString();
    }

    private static void add(StringBuilder text, String what, double... answers) {
        text.append(what);
        for (double answer : answers) {
            text.append(' ').append(answer);
        }
        text.append('\n');
    }

    // ---- the document

    private static void says(int number, String quotation, Runnable test) {
        promise = number;
        sentence = quotation;
        QUOTED.computeIfAbsent(number, any -> new ArrayList<>()).add(quotation);
        int before = checks;
        try {
            test.run();
        } catch (RuntimeException e) {
            complain("a call", e, "no exception");
        }
        if (checks == before) {
            complain("the test", "no check", "a check");
        }
    }

    private static void eachSentenceHasATest() throws IOException {
        if (!Files.exists(DOCUMENT)) {
            System.out.println(DOCUMENT + " is not here: the quotations are not compared with it");
            return;
        }
        for (String section : Files.readString(DOCUMENT).split("(?m)^## ")) {
            String title = section.substring(0, section.indexOf('\n'));
            if (title.startsWith("Promise ")) {
                eachSentenceHasATest(Integer.parseInt(title.replaceAll("[^0-9]*([0-9]+):.*", "$1")), section);
            }
        }
        String document = Files.readString(DOCUMENT).replaceAll("(?s)```.*?```", "");
        eachSentenceHasATest(TERMS, document.substring(document.indexOf("\n## "), document.indexOf("\n## Promise 1:")));
    }

    private static void eachSentenceHasATest(int number, String section) {
        List<String> quoted = QUOTED.getOrDefault(number, List.of());
        for (String line : section.substring(section.indexOf('\n')).split("\n")) {
            for (String part : line.replaceFirst("^`[^`]*`: ", "").split("(?<=\\.) (?=[A-Z\"])")) {
                checks++;
                if (!namesNoBoundary(part.trim()) && quoted.stream().noneMatch(quotation -> quotation.contains(part) || part.contains(quotation))) {
                    promise = number;
                    sentence = part;
                    complain("the sentence", "no test", "a test");
                }
            }
        }
        for (String quotation : quoted) {
            checks++;
            if (!section.contains(quotation)) {
                promise = number;
                sentence = quotation;
                complain("the quotation", "not in the document", "in it");
            }
        }
    }

    /** Headings, numbers of an enumeration, the order of the interface, and parameters of which the exceptions speak. */
    private static boolean namesNoBoundary(String part) {
        return part.matches("|#.*|[A-Z][a-z]+( [a-z]+){0,2}|[0-9]+\\.|Ahead of the calls .*|- `(child|garden)`: a (child|garden)|A day-by-day simulator .*");
    }

    // ---- checks

    private static void is(double due, double got) {
        checks++;
        if (got != due) {
            complain("the answer", got, due);
        }
    }

    private static void is(double due, InventedBirthdays x, ObjectCall call) {
        is(due, call.answer(x));
    }

    private static void same(String due, String got) {
        checks++;
        if (!got.equals(due)) {
            complain("the state", got, due);
        }
    }

    private static void different(String before, String got) {
        checks++;
        if (got.equals(before)) {
            complain("the state", "as before", "another");
        }
    }

    private static void written(String due, InventedBirthdays x, int length) {
        StringBuilder got = new StringBuilder();
        for (int i = 0; i < length; i++) {
            got.append((char) x.outputByte(i));
        }
        checks++;
        if (!due.contentEquals(got)) {
            complain("the output", got, due);
        }
        fails(INDEX, () -> x.outputByte(length));
    }

    private static void fails(Class<? extends RuntimeException> due, Call call) {
        checks++;
        try {
            complain("a call", call.answer(), due);
        } catch (RuntimeException e) {
            if (e.getClass() != due) {
                complain("a call", e, due);
            }
        }
    }

    private static void complain(String what, Object got, Object due) {
        wrong++;
        StackTraceElement[] trace = new Throwable().getStackTrace();
        StringBuilder lines = new StringBuilder();
        for (StackTraceElement element : trace) {
            if (element.getMethodName().startsWith("lambda$")) {
                lines.append(' ').append(element.getLineNumber());
            }
        }
        System.out.println("promise " + promise + ", \"" + sentence + "\", lines" + lines + ": " + what + ": " + got + ", due is " + due);
    }
}
