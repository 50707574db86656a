import java.nio.charset.StandardCharsets;
import java.util.ArrayList;
import java.util.HashSet;
import java.util.List;
import java.util.Random;
import java.util.Set;
import java.util.TreeSet;
import java.util.regex.Matcher;
import java.util.regex.Pattern;

/** Compares long runs of calls, at most 512 an object, with a second model written from the document alone. */
public final class ModelTest {
    private static final int RUNS = 2500;
    private static final int CALLS = 512;
    // Every call answers, every exception that the document names is thrown, every kind of error is reported.
    private static final int OUTCOMES = 105;

    private interface Real {
        double answer(InventedBirthdays x, int[] a);
    }

    private interface Due {
        double answer(Model m, int[] a);
    }

    private record Operation(String name, String arguments, Real real, Due due) {
    }

    private static final List<Operation> OPERATIONS = new ArrayList<>();
    private static final Set<String> SEEN = new TreeSet<>();
    private static Random random;

    public static void main(String[] args) {
        fillOperations();
        for (int run = 0; run < RUNS; run++) {
            random = new Random(run);
            if (!runAgrees(run)) {
                System.exit(1);
            }
        }
        System.out.println(RUNS + " runs agree with the model, " + SEEN.size() + " outcomes were met");
        if (SEEN.size() < OUTCOMES) {
            System.out.println("due are " + OUTCOMES + " outcomes: " + SEEN);
            System.exit(1);
        }
    }

    private static boolean runAgrees(int run) {
        InventedBirthdays x = new InventedBirthdays();
        Model m = new Model();
        List<String> calls = new ArrayList<>();
        int left = CALLS;
        if (run % 10 != 0) {
            left -= loadText(x, m, Texts.good(random), calls);
        }
        while (left > 40) {
            if (random.nextInt(60) == 0) {
                left -= loadText(x, m, Texts.any(random), calls);
            } else {
                left--;
                Operation operation = OPERATIONS.get(random.nextInt(OPERATIONS.size()));
                int[] a = arguments(operation.arguments, m);
                StringBuilder call = new StringBuilder(operation.name);
                for (int value : a) {
                    call.append(' ').append(value);
                }
                String got = outcome(() -> operation.real.answer(x, a));
                String due = outcome(() -> operation.due.answer(m, a));
                calls.add(call + " -> " + got);
                SEEN.add(operation.name + (due.startsWith("throws") ? " " + due : ""));
                if (!got.equals(due)) {
                    return report(run, calls, due);
                }
            }
            if (m.difference != null) {
                return report(run, calls, m.difference);
            }
        }
        return true;
    }

    private static boolean report(int run, List<String> calls, String due) {
        System.out.println("run " + run + ":");
        calls.forEach(System.out::println);
        System.out.println("due is " + due);
        return false;
    }

    private interface Answer {
        double get();
    }

    private static String outcome(Answer answer) {
        try {
            return String.valueOf(answer.get());
        } catch (RuntimeException e) {
            return "throws " + e.getClass().getSimpleName();
        }
    }

    private static int loadText(InventedBirthdays x, Model m, String text, List<String> calls) {
        byte[] bytes = text.getBytes(StandardCharsets.ISO_8859_1);
        int used = 0;
        outcome(() -> m.load(0));
        outcome(() -> x.load(0));
        for (int at = 0; at < bytes.length; at += 20) {
            int[] a = new int[5];
            for (int i = 0; i < 20; i++) {
                a[i / 4] = a[i / 4] << 8 | (at + i < bytes.length ? bytes[at + i] & 255 : '9');
            }
            String got = outcome(() -> x.append(a[0], a[1], a[2], a[3], a[4]));
            String due = outcome(() -> m.append(a));
            if (!got.equals(due)) {
                m.difference = "append: " + got + " / " + due;
            }
            used++;
        }
        int length = Math.min(600, bytes.length - (random.nextInt(8) == 0 ? random.nextInt(bytes.length + 1) : 0));
        String got = outcome(() -> x.load(length));
        String due = outcome(() -> m.load(length));
        calls.add("load " + length + " of '" + text + "' -> " + got);
        if (!got.equals(due) || x.errorKind() != m.errorKind || x.errorOffset() != m.errorOffset) {
            m.difference = "load: " + due + ", kind " + m.errorKind + " at " + m.errorOffset + "; got kind " + x.errorKind() + " at " + x.errorOffset();
        }
        SEEN.add("load kind " + m.errorKind);
        return used + 5;
    }

    private static int[] arguments(String kinds, Model m) {
        int[] a = new int[kinds.length()];
        for (int i = 0; i < a.length; i++) {
            a[i] = argument(kinds.charAt(i), m);
        }
        return a;
    }

    private static int argument(char kind, Model m) {
        int[] strange = {Integer.MIN_VALUE, Integer.MAX_VALUE, -1, 0, 1000, 13, 31, 721};
        if (random.nextInt(60) == 0) {
            return strange[random.nextInt(strange.length)];
        }
        boolean edge = random.nextInt(15) == 0;
        switch (kind) {
            case 'c': return between(0, m.now.children.size() - (edge ? 0 : 1));
            case 'g': return between(0, m.now.gardens.size() - (edge ? 0 : 1));
            case 'm': return edge ? between(0, 13) : random.nextInt(3) == 0 ? m.now.date() / 30 + 1 : between(1, 2);
            case 'd': return edge ? between(0, 31) : random.nextInt(3) == 0 ? m.now.date() % 30 + 1 : between(1, 4);
            case 'k': return between(0, edge ? 6 : 5);
            case 's': return between(0, edge ? 2 : 1);
            case 'n': return edge ? between(0, 720) : random.nextInt(3) == 0 ? between(350, 370) : between(1, 9);
            case 'N': return random.nextInt(5) == 0 ? 720 : between(1, 720);
            case 'b': return edge ? between(990, 1000) : between(1, 50);
            case 'q': return edge ? between(0, 99) : between(1, 5);
            case 'o': return between(0, edge ? 20 : 8);
            default: throw new IllegalStateException("no such kind of argument");
        }
    }

    private static int between(int least, int most) {
        return most <= least ? least : least + random.nextInt(most - least + 1);
    }

    private static void add(String name, String arguments, int weight, Real real, Due due) {
        for (int i = 0; i < weight; i++) {
            OPERATIONS.add(new Operation(name, arguments, real, due));
        }
    }

    private static void fillOperations() {
        add("errorKind", "", 1, (x, a) -> x.errorKind(), (m, a) -> m.errorKind);
        add("errorOffset", "", 1, (x, a) -> x.errorOffset(), (m, a) -> m.errorOffset);
        add("year", "", 1, (x, a) -> x.year(), (m, a) -> m.now.days / 360);
        add("month", "", 1, (x, a) -> x.month(), (m, a) -> m.now.date() / 30 + 1);
        add("dayOfMonth", "", 1, (x, a) -> x.dayOfMonth(), (m, a) -> m.now.date() % 30 + 1);
        add("seed", "", 1, (x, a) -> x.seed(), (m, a) -> m.now.seed);
        add("nextDraw", "", 1, (x, a) -> x.nextDraw(), (m, a) -> (m.now.seed * 211 + 97) % 9973 % 360);
        add("candles", "", 2, (x, a) -> x.candles(), (m, a) -> m.now.candles);
        add("cakes", "k", 3, (x, a) -> x.cakes(a[0]), (m, a) -> m.now.cakes[m.kind(a[0])]);
        add("mostWantedCake", "", 1, (x, a) -> x.mostWantedCake(), (m, a) -> m.mostWanted());
        add("gardenCount", "", 1, (x, a) -> x.gardenCount(), (m, a) -> m.now.gardens.size());
        add("seatsOf", "g", 1, (x, a) -> x.seatsOf(a[0]), (m, a) -> m.now.gardens.get(m.garden(a[0])));
        add("childrenOf", "g", 1, (x, a) -> x.childrenOf(a[0]), (m, a) -> {
            int garden = m.garden(a[0]);
            return m.now.children.stream().filter(c -> c.garden == garden).count();
        });
        add("partyIn", "gmd", 2, (x, a) -> x.partyIn(a[0], a[1], a[2]), (m, a) -> m.partyIn(m.garden(a[0]), m.date(a[1], a[2])));
        add("childCount", "", 1, (x, a) -> x.childCount(), (m, a) -> m.now.children.size());
        add("cakeOf", "c", 1, (x, a) -> x.cakeOf(a[0]), (m, a) -> m.child(a[0]).cake);
        add("breathOf", "c", 1, (x, a) -> x.breathOf(a[0]), (m, a) -> m.child(a[0]).breath);
        add("ageOf", "c", 2, (x, a) -> x.ageOf(a[0]), (m, a) -> m.child(a[0]).age);
        add("gardenOf", "c", 1, (x, a) -> x.gardenOf(a[0]), (m, a) -> m.child(a[0]).garden);
        add("birthdayOf", "c", 2, (x, a) -> x.birthdayOf(a[0]), (m, a) -> m.child(a[0]).birthday);
        add("daysUntilBirthday", "c", 1, (x, a) -> x.daysUntilBirthday(a[0]), (m, a) -> m.now.until(m.child(a[0]).birthday));
        add("partiesOf", "c", 1, (x, a) -> x.partiesOf(a[0]), (m, a) -> m.child(a[0]).parties);
        add("wishesOf", "c", 2, (x, a) -> x.wishesOf(a[0]), (m, a) -> m.child(a[0]).wishes);
        add("strengthOf", "c", 1, (x, a) -> x.strengthOf(a[0]), (m, a) -> m.now.strength(m.child(a[0]), m.child(a[0]).cake));
        add("nextChild", "", 1, (x, a) -> x.nextChild(), (m, a) -> m.nextChild());
        add("childrenOn", "md", 1, (x, a) -> x.childrenOn(a[0], a[1]), (m, a) -> {
            int date = m.date(a[0], a[1]);
            return m.now.children.stream().filter(c -> c.birthday == date).count();
        });
        add("differentDates", "", 1, (x, a) -> x.differentDates(), (m, a) -> m.dates().size());
        add("dateAt", "c", 1, (x, a) -> x.dateAt(a[0]), (m, a) -> m.dateAt(a[0]));
        add("busiestMonth", "", 1, (x, a) -> x.busiestMonth(), (m, a) -> m.busiest());
        add("obstacle", "cgmd", 3, (x, a) -> x.obstacle(a[0], a[1], a[2], a[3]), (m, a) -> m.now.reason(m.child(a[0]), m.garden(a[1]), m.date(a[2], a[3])));
        add("freeGarden", "cmd", 2, (x, a) -> x.freeGarden(a[0], a[1], a[2]), (m, a) -> m.freeGarden(m.child(a[0]), m.date(a[1], a[2])));
        add("drawsNeeded", "c", 1, (x, a) -> x.drawsNeeded(a[0]), (m, a) -> m.now.copy().draw(m.numberOf(a[0])));
        add("candlesAfter", "n", 1, (x, a) -> x.candlesAfter(a[0]), (m, a) -> m.after(a[0]).candles);
        add("wishesAfter", "cn", 1, (x, a) -> x.wishesAfter(a[0], a[1]), (m, a) -> {
            int child = m.numberOf(a[0]);
            return m.after(a[1]).children.get(child).wishes;
        });
        add("heldParties", "", 1, (x, a) -> x.heldParties(), (m, a) -> m.now.held);
        add("failedParties", "", 1, (x, a) -> x.failedParties(), (m, a) -> m.now.failed);
        add("clashes", "", 1, (x, a) -> x.clashes(), (m, a) -> 0);
        add("candleDifference", "", 1, (x, a) -> x.candleDifference(), (m, a) -> 0);
        add("meanAge", "", 1, (x, a) -> x.meanAge(), (m, a) -> m.meanAge());
        add("wishShare", "", 1, (x, a) -> x.wishShare(), (m, a) -> m.now.held == 0 ? 0 : (float) m.now.granted / (float) m.now.held);
        add("advance", "n", 7, (x, a) -> x.advance(a[0]), (m, a) -> m.advance(a[0]));
        add("advance", "N", 3, (x, a) -> x.advance(a[0]), (m, a) -> m.advance(a[0]));
        add("draw", "c", 2, (x, a) -> x.draw(a[0]), (m, a) -> m.draw(a[0]));
        add("setBirthday", "cmd", 7, (x, a) -> x.setBirthday(a[0], a[1], a[2]), (m, a) -> m.setBirthday(a[0], a[1], a[2]));
        add("forgetBirthday", "c", 1, (x, a) -> x.forgetBirthday(a[0]), (m, a) -> m.forget(a[0]));
        add("moveTo", "cg", 3, (x, a) -> x.moveTo(a[0], a[1]), (m, a) -> m.move(a[0], a[1]));
        add("buyCandles", "b", 3, (x, a) -> x.buyCandles(a[0]), (m, a) -> m.buy(a[0]));
        add("bakeCakes", "kq", 4, (x, a) -> x.bakeCakes(a[0], a[1]), (m, a) -> m.bake(a[0], a[1]));
        add("restore", "s", 1, (x, a) -> x.restore(a[0]), (m, a) -> m.restore(a[0]));
        add("undo", "", 4, (x, a) -> x.undo(), (m, a) -> m.undo());
        add("save", "s", 1, (x, a) -> x.save(a[0]), (m, a) -> m.save(a[0]));
        add("writeChild", "c", 2, (x, a) -> x.writeChild(a[0]), (m, a) -> m.writeChild(a[0]));
        add("writeDate", "", 1, (x, a) -> x.writeDate(), (m, a) -> m.write((m.now.date() % 30 + 1) + "." + (m.now.date() / 30 + 1) + "." + m.now.days / 360));
        add("outputByte", "o", 6, (x, a) -> x.outputByte(a[0]), (m, a) -> {
            if (a[0] < 0 || a[0] >= m.output.length()) {
                throw new IndexOutOfBoundsException();
            }
            return m.output.charAt(a[0]);
        });
        add("load too much", "o", 1, (x, a) -> x.load(a[0] + 601), (m, a) -> m.load(a[0] + 601));
    }

    /** Description texts, most of them right or nearly so. */
    private static final class Texts {
        private static final String[] NAMES = {"a", "b", "ab", "ba", "cleo", "z", "zz", "garden", "days", "abcdef", "k", "l", "m"};

        static String good(Random random) {
            for (int i = 0; i < 200; i++) {
                String text = draft(random);
                Model m = new Model();
                if (text.length() <= 600 && m.accepts(text)) {
                    return text;
                }
            }
            return "registry 1 2";
        }

        static String any(Random random) {
            StringBuilder text = new StringBuilder(random.nextBoolean() ? good(random) : draft(random));
            String signs = "az09;; \n\t#{/:` A1";
            for (int i = random.nextInt(3); i > 0; i--) {
                int at = random.nextInt(text.length());
                char sign = signs.charAt(random.nextInt(signs.length()));
                int change = random.nextInt(3);
                if (change == 0) {
                    text.setCharAt(at, sign);
                } else if (change == 1) {
                    text.insert(at, sign);
                } else if (text.length() > 1) {
                    text.deleteCharAt(at);
                }
            }
            text.setLength(Math.min(600, text.length()));
            return text.toString();
        }

        private static String draft(Random random) {
            int wild = random.nextInt(4) == 0 ? 12 : 400;
            StringBuilder text = new StringBuilder("registry");
            text.append(number(random, 0, 9972, wild)).append(number(random, 0, random.nextInt(4) == 0 ? 9999 : 120, wild));
            int gardens = random.nextInt(12) == 0 ? 5 : 1 + random.nextInt(4);
            for (int i = 0; i < gardens; i++) {
                text.append(end(random)).append("garden").append(number(random, 1, 12, wild));
            }
            int children = random.nextInt(12) == 0 ? 11 : random.nextInt(11);
            int kinds = 1 + random.nextInt(6);
            for (int i = 0; i < children; i++) {
                text.append(end(random)).append("child ").append(NAMES[random.nextInt(wild) == 0 ? 0 : i])
                        .append(number(random, 0, kinds - 1, wild)).append(number(random, 1, random.nextBoolean() ? 20 : 4, wild))
                        .append(number(random, 0, random.nextBoolean() ? 99 : 6, wild)).append(number(random, 0, Math.min(gardens, 4) - 1, wild));
            }
            if (random.nextInt(8) == 0) {
                text.append(";days 720".repeat(random.nextInt(49)));
            }
            for (int i = random.nextInt(9); i > 0; i--) {
                text.append(end(random)).append(line(random, Math.max(children, 1), wild));
            }
            return text.toString();
        }

        private static String line(Random random, int children, int wild) {
            String name = NAMES[Math.min(NAMES.length - 1, random.nextInt(wild) == 0 ? children + 1 : random.nextInt(children))];
            switch (random.nextInt(5)) {
                case 0: return "draw " + name;
                case 1: return "cakes" + number(random, 0, 5, wild) + number(random, 1, random.nextInt(9) == 0 ? 99 : 4, wild);
                case 2: return "days" + number(random, 1, random.nextBoolean() ? 720 : 9, wild);
                default: return "birthday " + name + number(random, 1, random.nextBoolean() ? 2 : 12, wild) + number(random, 1, random.nextBoolean() ? 4 : 30, wild);
            }
        }

        private static String number(Random random, int least, int most, int wild) {
            int value = least + random.nextInt(most - least + 1);
            if (random.nextInt(wild) == 0) {
                int[] values = {0, 13, 31, 99, 100, 721, 9999, 12345, 4, 6};
                value = values[random.nextInt(values.length)];
            }
            return (random.nextInt(20) == 0 ? " \n" : " ") + (random.nextInt(20) == 0 ? "0" : "") + value;
        }

        private static String end(Random random) {
            int way = random.nextInt(12);
            return way == 0 ? " ; " : way == 1 ? "\n;" : ";";
        }
    }

    private static final class Child {
        String name;
        int cake;
        int breath;
        int age;
        int garden;
        int birthday = -1;
        int parties;
        int wishes;

        Child copy() {
            Child c = new Child();
            c.name = name;
            c.cake = cake;
            c.breath = breath;
            c.age = age;
            c.garden = garden;
            c.birthday = birthday;
            c.parties = parties;
            c.wishes = wishes;
            return c;
        }
    }

    private static final class State {
        int days;
        int seed;
        int candles;
        int[] cakes = new int[6];
        int held;
        int failed;
        int granted;
        List<Integer> gardens = new ArrayList<>();
        List<Child> children = new ArrayList<>();

        State copy() {
            State s = new State();
            s.days = days;
            s.seed = seed;
            s.candles = candles;
            s.cakes = cakes.clone();
            s.held = held;
            s.failed = failed;
            s.granted = granted;
            s.gardens.addAll(gardens);
            children.forEach(c -> s.children.add(c.copy()));
            return s;
        }

        int date() {
            return days % 360;
        }

        int until(int birthday) {
            if (birthday == -1) {
                return -1;
            }
            int count = 1;
            while ((days + count) % 360 != birthday) {
                count++;
            }
            return count;
        }

        int reason(Child child, int garden, int date) {
            if (children.stream().anyMatch(c -> c != child && c.garden == garden && c.birthday == date)) {
                return 1;
            }
            return gardens.get(garden) < children.stream().filter(c -> c.cake == child.cake).count() ? 2 : 0;
        }

        int strength(Child child, int kind) {
            int guests = 0;
            for (Child other : children) {
                if (other != child && other.cake == kind && guests < gardens.get(child.garden) - 1) {
                    guests++;
                }
            }
            return child.breath + guests;
        }

        int draw(int number) {
            Child child = children.get(number);
            for (int draws = 1; draws <= 20; draws++) {
                seed = (seed * 211 + 97) % 9973;
                if (reason(child, child.garden, seed % 360) == 0) {
                    child.birthday = seed % 360;
                    return draws;
                }
            }
            return -1;
        }

        int pass(int number) {
            int before = held;
            while (number-- > 0) {
                days++;
                for (Child child : children) {
                    if (child.birthday == date()) {
                        party(child);
                    }
                }
            }
            return held - before;
        }

        private void party(Child child) {
            child.age++;
            int kind = child.cake;
            int tried = 0;
            while (cakes[kind] == 0 && tried < 6) {
                kind = kind == 5 ? 0 : kind + 1;
                tried++;
            }
            if (tried == 6) {
                failed++;
                return;
            }
            held++;
            child.parties++;
            cakes[kind]--;
            boolean enough = candles >= child.age;
            candles = enough ? candles - child.age : 0;
            if (enough && strength(child, kind) >= child.age) {
                child.wishes++;
                granted++;
            }
        }
    }

    private static final class TextError extends RuntimeException {
        private static final long serialVersionUID = 1L;
        final int kind;
        final int offset;

        TextError(int kind, int offset) {
            this.kind = kind;
            this.offset = offset;
        }
    }

    private record Token(String text, int offset, boolean bad) {
        boolean isWord() {
            return !bad && text.matches("[a-z]+");
        }

        boolean isNumber() {
            return !bad && text.matches("[0-9]{1,4}");
        }
    }

    private static final class Model {
        State now;
        List<State> past = new ArrayList<>();
        State[] saved = new State[2];
        List<Byte> input = new ArrayList<>();
        String output = "";
        int errorKind;
        int errorOffset = -1;
        String difference;

        Model() {
            now = parse("registry 7 12; garden 4; garden 2; child ada 2 3 4 0; child ben 2 9 1 0; child cleo 5 2 6 1; "
                    + "cakes 2 1; cakes 3 2; birthday ada 1 5; draw ben; birthday cleo 1 5; days 4");
        }

        boolean accepts(String text) {
            try {
                parse(text);
                return true;
            } catch (TextError e) {
                return false;
            }
        }

        // ---- the text

        private List<Token> tokens;
        private int at;
        private int end;

        private State parse(String text) {
            tokens = new ArrayList<>();
            at = 0;
            end = text.length();
            Matcher matcher = Pattern.compile("[a-z]+|[0-9]+|;|[^a-z0-9; \n]").matcher(text);
            while (matcher.find()) {
                String token = matcher.group();
                boolean glued = matcher.start() > 0 && text.substring(matcher.start() - 1, matcher.start() + 1).matches("[a-z0-9]{2}");
                tokens.add(new Token(token, matcher.start(), glued || !token.matches("[a-z]+|[0-9]{1,4}|;")));
            }
            State s = new State();
            word("registry");
            s.seed = number(0, 9972);
            s.candles = number(0, 9999);
            while (at < tokens.size()) {
                if (!tokens.get(at).text.equals(";")) {
                    throw new TextError(1, tokens.get(at).offset);
                }
                at++;
                line(s);
            }
            return s;
        }

        private Token next() {
            if (at == tokens.size()) {
                throw new TextError(1, end);
            }
            return tokens.get(at++);
        }

        private void word(String word) {
            Token token = next();
            if (!token.isWord() || !token.text.equals(word)) {
                throw new TextError(1, token.offset);
            }
        }

        private int number(int least, int most) {
            Token token = next();
            if (!token.isNumber()) {
                throw new TextError(1, token.offset);
            }
            int value = Integer.parseInt(token.text);
            if (value < least || value > most) {
                throw new TextError(2, token.offset);
            }
            return value;
        }

        private Token name() {
            Token token = next();
            if (!token.isWord() || token.text.length() > 6) {
                throw new TextError(1, token.offset);
            }
            return token;
        }

        private int known(State s) {
            Token token = name();
            for (int i = 0; i < s.children.size(); i++) {
                if (s.children.get(i).name.equals(token.text)) {
                    return i;
                }
            }
            throw new TextError(3, token.offset);
        }

        private int lastOffset() {
            return tokens.get(at - 1).offset;
        }

        private void line(State s) {
            Token first = next();
            if (!first.isWord()) {
                throw new TextError(1, first.offset);
            }
            if (first.text.equals("garden")) {
                if (s.gardens.size() == 4) {
                    throw new TextError(5, first.offset);
                }
                s.gardens.add(number(1, 12));
            } else if (first.text.equals("child")) {
                if (s.children.size() == 10) {
                    throw new TextError(5, first.offset);
                }
                childLine(s);
            } else if (first.text.equals("birthday")) {
                Child child = s.children.get(known(s));
                int date = number(1, 12) * 30 - 30 + number(1, 30) - 1;
                if (s.reason(child, child.garden, date) != 0) {
                    throw new TextError(6, lastOffset());
                }
                child.birthday = date;
            } else if (first.text.equals("draw")) {
                if (s.draw(known(s)) == -1) {
                    throw new TextError(6, lastOffset());
                }
            } else if (first.text.equals("cakes")) {
                int kind = number(0, 5);
                s.cakes[kind] += number(1, 99);
                if (s.cakes[kind] > 99) {
                    throw new TextError(2, lastOffset());
                }
            } else if (first.text.equals("days")) {
                int days = number(1, 720);
                if ((s.days + days) / 360 > 99) {
                    throw new TextError(2, lastOffset());
                }
                s.pass(days);
            } else {
                throw new TextError(1, first.offset);
            }
        }

        private void childLine(State s) {
            Token name = name();
            if (s.children.stream().anyMatch(c -> c.name.equals(name.text))) {
                throw new TextError(4, name.offset);
            }
            Child child = new Child();
            child.name = name.text;
            child.cake = number(0, 5);
            child.breath = number(1, 20);
            child.age = number(0, 99);
            child.garden = number(0, s.gardens.size() - 1);
            s.children.add(child);
        }

        int append(int[] words) {
            if (input.size() > 580) {
                throw new IllegalStateException();
            }
            for (int word : words) {
                input.add((byte) (word >>> 24));
                input.add((byte) (word >>> 16));
                input.add((byte) (word >>> 8));
                input.add((byte) word);
            }
            return input.size();
        }

        int load(int length) {
            if (length < 0 || length > input.size()) {
                throw new IndexOutOfBoundsException();
            }
            StringBuilder text = new StringBuilder();
            for (int i = 0; i < length; i++) {
                text.append((char) (input.get(i) & 255));
            }
            input.clear();
            try {
                now = parse(text.toString());
                errorKind = 0;
                errorOffset = -1;
                past.clear();
                saved = new State[2];
                return now.children.size();
            } catch (TextError e) {
                errorKind = e.kind;
                errorOffset = e.offset;
                throw new IllegalArgumentException();
            }
        }

        // ---- arguments

        int numberOf(int child) {
            if (child < 0 || child >= now.children.size()) {
                throw new IndexOutOfBoundsException();
            }
            return child;
        }

        Child child(int child) {
            return now.children.get(numberOf(child));
        }

        int garden(int garden) {
            if (garden < 0 || garden >= now.gardens.size()) {
                throw new IndexOutOfBoundsException();
            }
            return garden;
        }

        int date(int month, int day) {
            require(month >= 1 && month <= 12 && day >= 1 && day <= 30);
            return (month - 1) * 30 + day - 1;
        }

        int kind(int kind) {
            require(kind >= 0 && kind <= 5);
            return kind;
        }

        private static void require(boolean condition) {
            if (!condition) {
                throw new IllegalArgumentException();
            }
        }

        private static void allow(boolean condition) {
            if (!condition) {
                throw new IllegalStateException();
            }
        }

        // ---- questions

        int mostWanted() {
            int[] wanted = new int[6];
            now.children.forEach(c -> wanted[c.cake]++);
            return indexOfMost(wanted);
        }

        int busiest() {
            int[] birthdays = new int[12];
            now.children.stream().filter(c -> c.birthday >= 0).forEach(c -> birthdays[c.birthday / 30]++);
            int month = indexOfMost(birthdays);
            return birthdays[month] == 0 ? -1 : month + 1;
        }

        private static int indexOfMost(int[] counts) {
            int best = 0;
            for (int i = 0; i < counts.length; i++) {
                if (counts[i] > counts[best]) {
                    best = i;
                }
            }
            return best;
        }

        int partyIn(int garden, int date) {
            for (int i = 0; i < now.children.size(); i++) {
                if (now.children.get(i).garden == garden && now.children.get(i).birthday == date) {
                    return i;
                }
            }
            return -1;
        }

        int nextChild() {
            for (int days = 1; days <= 360; days++) {
                for (int i = 0; i < now.children.size(); i++) {
                    if (now.children.get(i).birthday == (now.days + days) % 360) {
                        return i;
                    }
                }
            }
            return -1;
        }

        List<Integer> dates() {
            Set<Integer> seen = new HashSet<>();
            List<Integer> dates = new ArrayList<>();
            for (Child c : now.children) {
                if (c.birthday >= 0 && seen.add(c.birthday)) {
                    dates.add(c.birthday);
                }
            }
            return dates;
        }

        int dateAt(int index) {
            if (index < 0 || index >= dates().size()) {
                throw new IndexOutOfBoundsException();
            }
            return dates().get(index);
        }

        int freeGarden(Child child, int date) {
            for (int garden = 0; garden < now.gardens.size(); garden++) {
                if (now.reason(child, garden, date) == 0) {
                    return garden;
                }
            }
            return -1;
        }

        State after(int days) {
            require(days >= 0 && days <= 720);
            State s = now.copy();
            s.pass(days);
            return s;
        }

        double meanAge() {
            double total = 0;
            for (Child c : now.children) {
                total += c.age;
            }
            return now.children.isEmpty() ? 0 : total / now.children.size();
        }

        // ---- changes

        private void record(State before) {
            past.add(before);
            if (past.size() > 10) {
                past.remove(0);
            }
        }

        int advance(int days) {
            require(days >= 1 && days <= 720);
            allow((now.days + days) / 360 <= 99);
            record(now.copy());
            return now.pass(days);
        }

        int draw(int child) {
            numberOf(child);
            State after = now.copy();
            int draws = after.draw(child);
            allow(draws != -1);
            record(now);
            now = after;
            return draws;
        }

        int setBirthday(int child, int month, int day) {
            Child c = child(child);
            int date = date(month, day);
            allow(now.reason(c, c.garden, date) == 0);
            record(now.copy());
            c.birthday = date;
            return now.until(date);
        }

        int forget(int child) {
            Child c = child(child);
            record(now.copy());
            int before = c.birthday;
            c.birthday = -1;
            return before;
        }

        int move(int child, int garden) {
            Child c = child(child);
            garden(garden);
            allow(c.birthday == -1 || now.reason(c, garden, c.birthday) == 0);
            record(now.copy());
            int before = c.garden;
            c.garden = garden;
            return before;
        }

        int buy(int number) {
            require(number >= 1 && number <= 999);
            allow(now.candles + number <= 9999);
            record(now.copy());
            return now.candles += number;
        }

        int bake(int kind, int number) {
            kind(kind);
            require(number >= 1 && number <= 99);
            allow(now.cakes[kind] + number <= 99);
            record(now.copy());
            return now.cakes[kind] += number;
        }

        private static void slot(int slot) {
            if (slot != 0 && slot != 1) {
                throw new IndexOutOfBoundsException();
            }
        }

        int restore(int slot) {
            slot(slot);
            allow(saved[slot] != null);
            record(now);
            now = saved[slot].copy();
            return now.days / 360;
        }

        int save(int slot) {
            slot(slot);
            saved[slot] = now.copy();
            return now.days / 360;
        }

        int undo() {
            allow(!past.isEmpty());
            now = past.remove(past.size() - 1);
            return past.size();
        }

        int write(String text) {
            output = text;
            return text.length();
        }

        int writeChild(int child) {
            Child c = child(child);
            return write(c.name + " " + c.age + (c.birthday < 0 ? "" : " " + (c.birthday / 30 + 1) + "/" + (c.birthday % 30 + 1)));
        }
    }
}
