import java.util.Arrays;

/** A registry of invented birthdays, simulated day by day. */
public final class InventedBirthdays {
    public static final int NONE = -1;

    private static final int MONTHS = 12;
    private static final int DAYS_IN_MONTH = 30;
    private static final int DAYS_IN_YEAR = 360;
    private static final int LAST_YEAR = 99;
    private static final int MOST_DAYS = 720;
    private static final int KINDS = 6;
    private static final int MOST_CAKES = 99;
    private static final int MOST_CANDLES = 9999;
    private static final int MOST_CANDLES_BOUGHT = 999;
    private static final int MOST_GARDENS = 4;
    private static final int MOST_SEATS = 12;
    private static final int MOST_CHILDREN = 10;
    private static final int MOST_BREATH = 20;
    private static final int MOST_FIRST_AGE = 99;
    private static final int SEEDS = 9973;
    private static final int MOST_DRAWS = 20;
    private static final int SLOTS = 2;
    private static final int MOST_UNDOS = 10;
    private static final int MOST_INPUT = 600;
    private static final int APPENDED = 20;
    private static final int MOST_OUTPUT = 32;

    // A name is kept as one number, its letters being digits 1 to 26 of base 27.
    private static final int NAME_BASE = 27;
    private static final int NAME_LETTERS = 6;
    private static final int NAME_TOP_POWER = 14348907;
    private static final int NUMBER_DIGITS = 4;
    private static final int NUMBER_TOP_POWER = 1000000000;

    private static final int SYNTAX = 1;
    private static final int OUT_OF_RANGE = 2;
    private static final int UNKNOWN_NAME = 3;
    private static final int DUPLICATE_NAME = 4;
    private static final int TOO_MANY = 5;
    private static final int REFUSED = 6;

    private static final String FIRST_TEXT = "registry 7 12; garden 4; garden 2; child ada 2 3 4 0; child ben 2 9 1 0; child cleo 5 2 6 1; cakes 2 1; cakes 3 2; birthday ada 1 5; draw ben; birthday cleo 1 5; days 4";

    private final byte[] output = new byte[MOST_OUTPUT];
    private int outputLength;
    private int reportedKind;
    private int reportedOffset = NONE;
    private final Registry now = new Registry();
    private final Registry forecast = new Registry();
    private final Parser parser = new Parser();
    private final History history = new History();
    private final Registry[] saved = new Registry[SLOTS];
    private final boolean[] isSaved = new boolean[SLOTS];

    public InventedBirthdays() {
        for (int slot = 0; slot < saved.length; slot++) {
            saved[slot] = new Registry();
        }
        for (int i = 0; i < FIRST_TEXT.length(); i++) {
            parser.addByte(FIRST_TEXT.charAt(i));
        }
        parser.parse(parser.bufferLength);
        parser.emptyBuffer();
        now.copyFrom(parser.result);
    }

    // ---- input

    public int append(int a, int b, int c, int d, int e) throws IllegalStateException {
        if (parser.bufferLength + APPENDED > MOST_INPUT) {
            throw new IllegalStateException("the input buffer is full");
        }
        appendFour(a);
        appendFour(b);
        appendFour(c);
        appendFour(d);
        appendFour(e);
        return parser.bufferLength;
    }

    private void appendFour(int bytes) {
        for (int shift = 24; shift >= 0; shift -= 8) {
            parser.addByte(bytes >> shift);
        }
    }

    public int load(int length) throws IndexOutOfBoundsException, IllegalArgumentException {
        if (length < 0 || length > parser.bufferLength) {
            throw new IndexOutOfBoundsException("there is no such length of the input");
        }
        parser.parse(length);
        parser.emptyBuffer();
        reportedKind = parser.faultKind;
        reportedOffset = parser.faultOffset;
        if (reportedKind != 0) {
            throw new IllegalArgumentException("the text has an error");
        }
        now.copyFrom(parser.result);
        history.forgetAll();
        for (int slot = 0; slot < isSaved.length; slot++) {
            isSaved[slot] = false;
        }
        return now.children;
    }

    public int errorKind() {
        return reportedKind;
    }

    public int errorOffset() {
        return reportedOffset;
    }

    // ---- calendar and stocks

    public int year() {
        return now.year;
    }

    public int month() {
        return monthAt(now.date);
    }

    public int dayOfMonth() {
        return dayAt(now.date);
    }

    public int seed() {
        return now.seed;
    }

    public int nextDraw() {
        return seedAfter(now.seed) % DAYS_IN_YEAR;
    }

    public int candles() {
        return now.candles;
    }

    public int cakes(int kind) throws IllegalArgumentException {
        needKind(kind);
        return cell(now.cakeStock, kind);
    }

    public int mostWantedCake() {
        int best = 0;
        for (int kind = 1; kind < KINDS; kind++) {
            if (now.countFans(kind) > now.countFans(best)) {
                best = kind;
            }
        }
        return best;
    }

    // ---- gardens

    public int gardenCount() {
        return now.gardens;
    }

    public int seatsOf(int garden) throws IndexOutOfBoundsException {
        needGarden(garden);
        return cell(now.seats, garden);
    }

    public int childrenOf(int garden) throws IndexOutOfBoundsException {
        needGarden(garden);
        return countOf(garden, now.homes, now.children);
    }

    public int partyIn(int garden, int month, int day) throws IndexOutOfBoundsException, IllegalArgumentException {
        needGarden(garden);
        needDate(month, day);
        int date = dateOf(month, day);
        for (int child = 0; child < now.children; child++) {
            if (cell(now.homes, child) == garden && cell(now.birthdays, child) == date) {
                return child;
            }
        }
        return NONE;
    }

    // ---- children

    public int childCount() {
        return now.children;
    }

    public int cakeOf(int child) throws IndexOutOfBoundsException {
        needChild(child);
        return cell(now.favourites, child);
    }

    public int breathOf(int child) throws IndexOutOfBoundsException {
        needChild(child);
        return cell(now.breaths, child);
    }

    public int ageOf(int child) throws IndexOutOfBoundsException {
        needChild(child);
        return cell(now.ages, child);
    }

    public int gardenOf(int child) throws IndexOutOfBoundsException {
        needChild(child);
        return cell(now.homes, child);
    }

    public int birthdayOf(int child) throws IndexOutOfBoundsException {
        needChild(child);
        return cell(now.birthdays, child);
    }

    public int daysUntilBirthday(int child) throws IndexOutOfBoundsException {
        needChild(child);
        int birthday = cell(now.birthdays, child);
        return birthday == NONE ? NONE : now.daysUntil(birthday);
    }

    public int partiesOf(int child) throws IndexOutOfBoundsException {
        needChild(child);
        return cell(now.parties, child);
    }

    public int wishesOf(int child) throws IndexOutOfBoundsException {
        needChild(child);
        return cell(now.wishes, child);
    }

    public int strengthOf(int child) throws IndexOutOfBoundsException {
        needChild(child);
        return now.partyStrength(child, cell(now.favourites, child));
    }

    public int nextChild() {
        int next = NONE;
        int fewest = DAYS_IN_YEAR + 1;
        for (int child = 0; child < now.children; child++) {
            int birthday = cell(now.birthdays, child);
            if (birthday != NONE && now.daysUntil(birthday) < fewest) {
                next = child;
                fewest = now.daysUntil(birthday);
            }
        }
        return next;
    }

    // ---- dates

    public int childrenOn(int month, int day) throws IllegalArgumentException {
        needDate(month, day);
        return countOf(dateOf(month, day), now.birthdays, now.children);
    }

    public int differentDates() {
        int count = 0;
        for (int child = 0; child < now.children; child++) {
            if (isFirstWithItsDate(child)) {
                count++;
            }
        }
        return count;
    }

    public int dateAt(int index) throws IndexOutOfBoundsException {
        int seen = 0;
        for (int child = 0; child < now.children; child++) {
            if (isFirstWithItsDate(child)) {
                if (seen == index) {
                    return cell(now.birthdays, child);
                }
                seen++;
            }
        }
        throw new IndexOutOfBoundsException("there is no such date");
    }

    private boolean isFirstWithItsDate(int child) {
        int birthday = cell(now.birthdays, child);
        for (int earlier = 0; earlier < child; earlier++) {
            if (cell(now.birthdays, earlier) == birthday) {
                return false;
            }
        }
        return birthday != NONE;
    }

    public int busiestMonth() {
        int busiest = NONE;
        int most = 0;
        for (int month = 1; month <= MONTHS; month++) {
            int count = countBirthdaysIn(month);
            if (count > most) {
                busiest = month;
                most = count;
            }
        }
        return busiest;
    }

    private int countBirthdaysIn(int month) {
        int count = 0;
        for (int child = 0; child < now.children; child++) {
            int birthday = cell(now.birthdays, child);
            if (birthday != NONE && monthAt(birthday) == month) {
                count++;
            }
        }
        return count;
    }

    public int obstacle(int child, int garden, int month, int day) throws IndexOutOfBoundsException, IllegalArgumentException {
        needChild(child);
        needGarden(garden);
        needDate(month, day);
        return now.reasonAgainst(child, garden, dateOf(month, day));
    }

    public int freeGarden(int child, int month, int day) throws IndexOutOfBoundsException, IllegalArgumentException {
        needChild(child);
        needDate(month, day);
        int date = dateOf(month, day);
        for (int garden = 0; garden < now.gardens; garden++) {
            if (now.reasonAgainst(child, garden, date) == 0) {
                return garden;
            }
        }
        return NONE;
    }

    public int drawsNeeded(int child) throws IndexOutOfBoundsException {
        needChild(child);
        return now.countDraws(child);
    }

    // ---- forecasts: what would happen if only days passed; nothing changes

    public int candlesAfter(int days) throws IllegalArgumentException {
        needForecastDays(days);
        forecastDays(days);
        return forecast.candles;
    }

    public int wishesAfter(int child, int days) throws IndexOutOfBoundsException, IllegalArgumentException {
        needChild(child);
        needForecastDays(days);
        forecastDays(days);
        return cell(forecast.wishes, child);
    }

    private void forecastDays(int days) {
        forecast.copyFrom(now);
        forecast.pass(days);
    }

    // ---- measures

    public int heldParties() {
        return sum(now.parties, now.children);
    }

    public int failedParties() {
        return now.failedParties;
    }

    public int clashes() {
        int pairs = 0;
        for (int child = 0; child < now.children; child++) {
            for (int earlier = 0; earlier < child; earlier++) {
                if (clash(child, earlier)) {
                    pairs++;
                }
            }
        }
        return pairs;
    }

    private boolean clash(int child, int other) {
        int birthday = cell(now.birthdays, child);
        return birthday != NONE
                && birthday == cell(now.birthdays, other)
                && cell(now.homes, child) == cell(now.homes, other);
    }

    public int candleDifference() {
        int difference = now.candles - now.firstCandles - now.boughtCandles + now.litCandles;
        return difference < 0 ? -difference : difference;
    }

    public double meanAge() {
        if (now.children == 0) {
            return 0.0;
        }
        return (double) sum(now.ages, now.children) / (double) now.children;
    }

    public float wishShare() {
        int held = sum(now.parties, now.children);
        if (held == 0) {
            return 0.0f;
        }
        return (float) sum(now.wishes, now.children) / (float) held;
    }

    // ---- changes

    public int advance(int days) throws IllegalArgumentException, IllegalStateException {
        if (days < 1 || days > MOST_DAYS) {
            throw new IllegalArgumentException("days is out of range");
        }
        if (days > now.daysLeft()) {
            throw new IllegalStateException("the year would exceed 99");
        }
        history.record(now);
        return now.pass(days);
    }

    public int draw(int child) throws IndexOutOfBoundsException, IllegalStateException {
        needChild(child);
        int draws = now.countDraws(child);
        if (draws == NONE) {
            throw new IllegalStateException("no date is found");
        }
        history.record(now);
        now.drawBirthday(child, draws);
        return draws;
    }

    public int setBirthday(int child, int month, int day) throws IndexOutOfBoundsException, IllegalArgumentException, IllegalStateException {
        needChild(child);
        needDate(month, day);
        int date = dateOf(month, day);
        if (now.reasonAgainst(child, cell(now.homes, child), date) != 0) {
            throw new IllegalStateException("there is an obstacle to this date");
        }
        history.record(now);
        setCell(now.birthdays, child, date);
        return now.daysUntil(date);
    }

    public int forgetBirthday(int child) throws IndexOutOfBoundsException {
        needChild(child);
        int birthday = cell(now.birthdays, child);
        history.record(now);
        setCell(now.birthdays, child, NONE);
        return birthday;
    }

    public int moveTo(int child, int garden) throws IndexOutOfBoundsException, IllegalStateException {
        needChild(child);
        needGarden(garden);
        int birthday = cell(now.birthdays, child);
        if (birthday != NONE && now.reasonAgainst(child, garden, birthday) != 0) {
            throw new IllegalStateException("there is an obstacle to this garden");
        }
        int previous = cell(now.homes, child);
        history.record(now);
        setCell(now.homes, child, garden);
        return previous;
    }

    public int buyCandles(int number) throws IllegalArgumentException, IllegalStateException {
        if (number < 1 || number > MOST_CANDLES_BOUGHT) {
            throw new IllegalArgumentException("number is out of range");
        }
        if (now.candles + number > MOST_CANDLES) {
            throw new IllegalStateException("the stock would exceed 9999");
        }
        history.record(now);
        now.candles += number;
        now.boughtCandles += number;
        return now.candles;
    }

    public int bakeCakes(int kind, int number) throws IllegalArgumentException, IllegalStateException {
        needKind(kind);
        if (number < 1 || number > MOST_CAKES) {
            throw new IllegalArgumentException("number is out of range");
        }
        if (cell(now.cakeStock, kind) + number > MOST_CAKES) {
            throw new IllegalStateException("the stock would exceed 99");
        }
        history.record(now);
        addToCell(now.cakeStock, kind, number);
        return cell(now.cakeStock, kind);
    }

    public int restore(int slot) throws IndexOutOfBoundsException, IllegalStateException {
        needSlot(slot);
        Registry state = stateIn(slot);
        if (state == null || !isFilled(slot)) {
            throw new IllegalStateException("nothing is saved in the slot");
        }
        history.record(now);
        now.copyFrom(state);
        return now.year;
    }

    private Registry stateIn(int slot) {
        return slot >= 0 && slot < saved.length ? saved[slot] : null;
    }

    private boolean isFilled(int slot) {
        return slot >= 0 && slot < isSaved.length && isSaved[slot];
    }

    // ---- undo and saved states

    public int undo() throws IllegalStateException {
        if (history.count == 0) {
            throw new IllegalStateException("there is no change to undo");
        }
        history.takeBack(now);
        return history.count;
    }

    public int save(int slot) throws IndexOutOfBoundsException {
        needSlot(slot);
        Registry state = stateIn(slot);
        if (state != null && slot >= 0 && slot < isSaved.length) {
            state.copyFrom(now);
            isSaved[slot] = true;
        }
        return now.year;
    }

    // ---- output

    public int writeChild(int child) throws IndexOutOfBoundsException {
        needChild(child);
        outputLength = 0;
        writeName(cell(now.names, child));
        writeByte(' ');
        writeNumber(cell(now.ages, child));
        int birthday = cell(now.birthdays, child);
        if (birthday != NONE) {
            writeByte(' ');
            writeNumber(monthAt(birthday));
            writeByte('/');
            writeNumber(dayAt(birthday));
        }
        return outputLength;
    }

    public int writeDate() {
        outputLength = 0;
        writeNumber(dayAt(now.date));
        writeByte('.');
        writeNumber(monthAt(now.date));
        writeByte('.');
        writeNumber(now.year);
        return outputLength;
    }

    public int outputByte(int index) throws IndexOutOfBoundsException {
        if (index < 0 || index >= outputLength || index >= output.length) {
            throw new IndexOutOfBoundsException("there is no such byte");
        }
        return output[index];
    }

    private void writeName(int name) {
        for (int power = NAME_TOP_POWER; power > 0; power /= NAME_BASE) {
            int letter = name / power % NAME_BASE;
            if (letter > 0) {
                writeByte('a' + letter - 1);
            }
        }
    }

    private void writeNumber(int number) {
        for (int power = NUMBER_TOP_POWER; power > 0; power /= 10) {
            if (number >= power || power == 1) {
                writeByte('0' + number / power % 10);
            }
        }
    }

    private void writeByte(int value) {
        if (outputLength >= 0 && outputLength < output.length) {
            output[outputLength] = (byte) value;
            outputLength++;
        }
    }

    // ---- tests of arguments

    private void needChild(int child) {
        if (child < 0 || child >= now.children) {
            throw new IndexOutOfBoundsException("there is no such child");
        }
    }

    private void needGarden(int garden) {
        if (garden < 0 || garden >= now.gardens) {
            throw new IndexOutOfBoundsException("there is no such garden");
        }
    }

    private static void needSlot(int slot) {
        if (slot < 0 || slot >= SLOTS) {
            throw new IndexOutOfBoundsException("slot is neither 0 nor 1");
        }
    }

    private static void needDate(int month, int day) {
        if (month < 1 || month > MONTHS || day < 1 || day > DAYS_IN_MONTH) {
            throw new IllegalArgumentException("there is no such date");
        }
    }

    private static void needKind(int kind) {
        if (kind < 0 || kind >= KINDS) {
            throw new IllegalArgumentException("kind is out of range");
        }
    }

    private static void needForecastDays(int days) {
        if (days < 0 || days > MOST_DAYS) {
            throw new IllegalArgumentException("days is out of range");
        }
    }

    // ---- dates, draws and rows

    private static int dateOf(int month, int day) {
        return (month - 1) * DAYS_IN_MONTH + day - 1;
    }

    private static int monthAt(int date) {
        return date / DAYS_IN_MONTH + 1;
    }

    private static int dayAt(int date) {
        return date % DAYS_IN_MONTH + 1;
    }

    private static int seedAfter(int seed) {
        return (seed * 211 + 97) % SEEDS;
    }

    // Cells of rows are read and written here alone, so that no index goes untested.
    private static int cell(int[] row, int index) {
        return index >= 0 && index < row.length ? row[index] : 0;
    }

    private static void setCell(int[] row, int index, int value) {
        if (index >= 0 && index < row.length) {
            row[index] = value;
        }
    }

    private static void addToCell(int[] row, int index, int number) {
        if (index >= 0 && index < row.length) {
            row[index] += number;
        }
    }

    private static void copyRow(int[] from, int[] to) {
        System.arraycopy(from, 0, to, 0, Math.min(from.length, to.length));
    }

    private static int sum(int[] row, int length) {
        int total = 0;
        for (int i = 0; i < length && i < row.length; i++) {
            total += row[i];
        }
        return total;
    }

    private static int countOf(int value, int[] row, int length) {
        int count = 0;
        for (int i = 0; i < length && i < row.length; i++) {
            if (row[i] == value) {
                count++;
            }
        }
        return count;
    }

    /** All that undo restores: the date, the stocks, the gardens and the children. */
    private static final class Registry {
        int year;
        int date;
        int seed;
        int candles;
        int firstCandles;
        int boughtCandles;
        int litCandles;
        int failedParties;
        int gardens;
        int children;
        final int[] cakeStock = new int[KINDS];
        final int[] seats = new int[MOST_GARDENS];
        final int[] names = new int[MOST_CHILDREN];
        final int[] favourites = new int[MOST_CHILDREN];
        final int[] breaths = new int[MOST_CHILDREN];
        final int[] ages = new int[MOST_CHILDREN];
        final int[] homes = new int[MOST_CHILDREN];
        final int[] birthdays = new int[MOST_CHILDREN];
        final int[] parties = new int[MOST_CHILDREN];
        final int[] wishes = new int[MOST_CHILDREN];

        void begin(int firstSeed, int firstStock) {
            year = 0;
            date = 0;
            seed = firstSeed;
            candles = firstStock;
            firstCandles = firstStock;
            boughtCandles = 0;
            litCandles = 0;
            failedParties = 0;
            gardens = 0;
            children = 0;
            Arrays.fill(cakeStock, 0);
        }

        void copyFrom(Registry other) {
            year = other.year;
            date = other.date;
            seed = other.seed;
            candles = other.candles;
            firstCandles = other.firstCandles;
            boughtCandles = other.boughtCandles;
            litCandles = other.litCandles;
            failedParties = other.failedParties;
            gardens = other.gardens;
            children = other.children;
            copyRow(other.cakeStock, cakeStock);
            copyRow(other.seats, seats);
            copyRow(other.names, names);
            copyRow(other.favourites, favourites);
            copyRow(other.breaths, breaths);
            copyRow(other.ages, ages);
            copyRow(other.homes, homes);
            copyRow(other.birthdays, birthdays);
            copyRow(other.parties, parties);
            copyRow(other.wishes, wishes);
        }

        void addGarden(int seatCount) {
            if (gardens < MOST_GARDENS) {
                setCell(seats, gardens, seatCount);
                gardens++;
            }
        }

        void addChild(int name, int favourite, int breath, int age, int home) {
            if (children < MOST_CHILDREN) {
                setCell(names, children, name);
                setCell(favourites, children, favourite);
                setCell(breaths, children, breath);
                setCell(ages, children, age);
                setCell(homes, children, home);
                setCell(birthdays, children, NONE);
                setCell(parties, children, 0);
                setCell(wishes, children, 0);
                children++;
            }
        }

        int childNamed(int name) {
            for (int child = 0; child < children; child++) {
                if (cell(names, child) == name) {
                    return child;
                }
            }
            return NONE;
        }

        int countFans(int kind) {
            return countOf(kind, favourites, children);
        }

        int daysUntil(int birthday) {
            return birthday > date ? birthday - date : birthday - date + DAYS_IN_YEAR;
        }

        int daysLeft() {
            return (LAST_YEAR - year) * DAYS_IN_YEAR + DAYS_IN_YEAR - 1 - date;
        }

        int reasonAgainst(int child, int garden, int day) {
            for (int other = 0; other < children; other++) {
                if (other != child && cell(homes, other) == garden && cell(birthdays, other) == day) {
                    return 1;
                }
            }
            return cell(seats, garden) < countFans(cell(favourites, child)) ? 2 : 0;
        }

        int countDraws(int child) {
            int home = cell(homes, child);
            int drawn = seed;
            for (int draws = 1; draws <= MOST_DRAWS; draws++) {
                drawn = seedAfter(drawn);
                if (reasonAgainst(child, home, drawn % DAYS_IN_YEAR) == 0) {
                    return draws;
                }
            }
            return NONE;
        }

        void drawBirthday(int child, int draws) {
            for (int i = 0; i < draws; i++) {
                seed = seedAfter(seed);
            }
            setCell(birthdays, child, seed % DAYS_IN_YEAR);
        }

        int pass(int days) {
            int held = 0;
            for (int day = 0; day < days; day++) {
                beginNextDate();
                for (int child = 0; child < children; child++) {
                    if (cell(birthdays, child) == date && celebrate(child)) {
                        held++;
                    }
                }
            }
            return held;
        }

        private void beginNextDate() {
            date++;
            if (date == DAYS_IN_YEAR) {
                date = 0;
                year++;
            }
        }

        private boolean celebrate(int child) {
            addToCell(ages, child, 1);
            int kind = cakeFor(cell(favourites, child));
            if (kind == NONE) {
                failedParties++;
                return false;
            }
            int age = cell(ages, child);
            int lit = Math.min(age, candles);
            addToCell(cakeStock, kind, -1);
            candles -= lit;
            litCandles += lit;
            addToCell(parties, child, 1);
            if (lit == age && partyStrength(child, kind) >= lit) {
                addToCell(wishes, child, 1);
            }
            return true;
        }

        private int cakeFor(int favourite) {
            for (int step = 0; step < KINDS; step++) {
                int kind = (favourite + step) % KINDS;
                if (cell(cakeStock, kind) > 0) {
                    return kind;
                }
            }
            return NONE;
        }

        int partyStrength(int child, int kind) {
            int others = countOf(kind, favourites, children);
            if (cell(favourites, child) == kind) {
                others--;
            }
            int guests = Math.min(others, cell(seats, cell(homes, child)) - 1);
            return cell(breaths, child) + guests;
        }
    }

    /** The states before the last changes, as a ring of states that are used again. */
    private static final class History {
        final Registry[] states = new Registry[MOST_UNDOS];
        int next;
        int count;

        History() {
            for (int i = 0; i < states.length; i++) {
                states[i] = new Registry();
            }
        }

        void forgetAll() {
            next = 0;
            count = 0;
        }

        void record(Registry present) {
            Registry state = stateAt(next);
            if (state != null) {
                state.copyFrom(present);
            }
            next = (next + 1) % MOST_UNDOS;
            count = Math.min(count + 1, MOST_UNDOS);
        }

        void takeBack(Registry present) {
            next = (next + MOST_UNDOS - 1) % MOST_UNDOS;
            count = Math.max(count - 1, 0);
            Registry state = stateAt(next);
            if (state != null) {
                present.copyFrom(state);
            }
        }

        private Registry stateAt(int index) {
            return index >= 0 && index < states.length ? states[index] : null;
        }
    }

    /** Holds the input and reads a description from left to right up to its first error. */
    private static final class Parser {
        private static final int BLANK = 0;
        private static final int WORD = 1;
        private static final int NUMBER = 2;
        private static final int SEMICOLON = 3;
        private static final int END = 4;
        private static final int BAD = 5;

        // The lines are executed on a registry apart, so that an error leaves the present state alone.
        final Registry result = new Registry();
        int bufferLength;
        int faultKind;
        int faultOffset;
        private final byte[] buffer = new byte[MOST_INPUT];
        private int length;
        private int token;
        private int tokenStart;
        private int tokenEnd;

        void addByte(int value) {
            if (bufferLength >= 0 && bufferLength < buffer.length) {
                buffer[bufferLength] = (byte) value;
                bufferLength++;
            }
        }

        void emptyBuffer() {
            bufferLength = 0;
        }

        void parse(int textLength) {
            length = textLength;
            faultKind = 0;
            faultOffset = NONE;
            token = BLANK;
            tokenStart = 0;
            tokenEnd = 0;
            readHead();
            // Each line has at least one byte, so there can't be more lines than bytes.
            for (int line = 0; line < length && faultKind == 0 && nextIsLine(); line++) {
                readToken();
                if (tokenIs("garden")) {
                    readGarden();
                } else if (tokenIs("child")) {
                    readChild();
                } else if (tokenIs("birthday")) {
                    readBirthday();
                } else if (tokenIs("draw")) {
                    readDraw();
                } else if (tokenIs("cakes")) {
                    readCakes();
                } else if (tokenIs("days")) {
                    readDays();
                } else {
                    fail(SYNTAX);
                }
            }
        }

        private void readHead() {
            readToken();
            if (!tokenIs("registry")) {
                fail(SYNTAX);
            }
            int seed = readNumber(0, SEEDS - 1);
            int candles = readNumber(0, MOST_CANDLES);
            result.begin(seed, candles);
        }

        private boolean nextIsLine() {
            readToken();
            if (token != SEMICOLON && token != END) {
                fail(SYNTAX);
            }
            return token == SEMICOLON;
        }

        private void readGarden() {
            if (result.gardens >= MOST_GARDENS) {
                fail(TOO_MANY);
            }
            int seatCount = readNumber(1, MOST_SEATS);
            if (faultKind == 0) {
                result.addGarden(seatCount);
            }
        }

        private void readChild() {
            if (result.children >= MOST_CHILDREN) {
                fail(TOO_MANY);
            }
            int name = readName();
            if (result.childNamed(name) != NONE) {
                fail(DUPLICATE_NAME);
            }
            int favourite = readNumber(0, KINDS - 1);
            int breath = readNumber(1, MOST_BREATH);
            int age = readNumber(0, MOST_FIRST_AGE);
            int home = readNumber(0, result.gardens - 1);
            if (faultKind == 0) {
                result.addChild(name, favourite, breath, age, home);
            }
        }

        private void readBirthday() {
            int child = readKnownChild();
            int month = readNumber(1, MONTHS);
            int day = readNumber(1, DAYS_IN_MONTH);
            if (faultKind != 0) {
                return;
            }
            int birthday = dateOf(month, day);
            if (result.reasonAgainst(child, cell(result.homes, child), birthday) != 0) {
                fail(REFUSED);
            } else {
                setCell(result.birthdays, child, birthday);
            }
        }

        private void readDraw() {
            int child = readKnownChild();
            if (faultKind != 0) {
                return;
            }
            int draws = result.countDraws(child);
            if (draws == NONE) {
                fail(REFUSED);
            } else {
                result.drawBirthday(child, draws);
            }
        }

        private void readCakes() {
            int kind = readNumber(0, KINDS - 1);
            int number = readNumber(1, MOST_CAKES - cell(result.cakeStock, kind));
            if (faultKind == 0) {
                addToCell(result.cakeStock, kind, number);
            }
        }

        private void readDays() {
            int days = readNumber(1, Math.min(MOST_DAYS, result.daysLeft()));
            if (faultKind == 0) {
                result.pass(days);
            }
        }

        private int readKnownChild() {
            int child = result.childNamed(readName());
            if (child == NONE) {
                fail(UNKNOWN_NAME);
            }
            return child;
        }

        private int readName() {
            readToken();
            if (token != WORD || tokenEnd - tokenStart > NAME_LETTERS) {
                fail(SYNTAX);
            }
            int name = 0;
            for (int i = tokenStart; i < tokenEnd; i++) {
                name = name * NAME_BASE + byteAt(i) - 'a' + 1;
            }
            return name;
        }

        private int readNumber(int least, int most) {
            readToken();
            if (token != NUMBER || tokenEnd - tokenStart > NUMBER_DIGITS) {
                fail(SYNTAX);
                return 0;
            }
            int number = 0;
            for (int i = tokenStart; i < tokenEnd; i++) {
                number = number * 10 + byteAt(i) - '0';
            }
            if (number < least || number > most) {
                fail(OUT_OF_RANGE);
                return 0;
            }
            return number;
        }

        // The first error wins: nothing is read after it, so a later one can't have a smaller offset.
        private void fail(int kind) {
            if (faultKind == 0) {
                faultKind = kind;
                faultOffset = tokenStart;
            }
        }

        private void readToken() {
            if (faultKind != 0) {
                return;
            }
            int start = tokenEnd;
            while (start < length && classAt(start) == BLANK) {
                start++;
            }
            int found = classAt(start);
            int end = start;
            if (isRun(found)) {
                while (end < length && classAt(end) == found) {
                    end++;
                }
            } else if (found == SEMICOLON) {
                end = start + 1;
            }
            boolean touching = start == tokenEnd && isRun(token) && isRun(found);
            token = touching ? BAD : found;
            tokenStart = start;
            tokenEnd = end;
        }

        private static boolean isRun(int kind) {
            return kind == WORD || kind == NUMBER;
        }

        private int classAt(int offset) {
            if (offset < 0 || offset >= length || offset >= buffer.length) {
                return END;
            }
            byte value = buffer[offset];
            if (value >= 'a' && value <= 'z') {
                return WORD;
            }
            if (value >= '0' && value <= '9') {
                return NUMBER;
            }
            if (value == ';') {
                return SEMICOLON;
            }
            return value == ' ' || value == '\n' ? BLANK : BAD;
        }

        private boolean tokenIs(String word) {
            if (token != WORD || tokenEnd - tokenStart != word.length()) {
                return false;
            }
            for (int i = 0; i < word.length(); i++) {
                if (byteAt(tokenStart + i) != word.charAt(i)) {
                    return false;
                }
            }
            return true;
        }

        private int byteAt(int offset) {
            return offset >= 0 && offset < buffer.length ? buffer[offset] : 0;
        }
    }
}
