import java.util.Arrays;
import java.util.NoSuchElementException;

/**
 * The ledger of a community solar garden. The public methods test their arguments and keep the
 * state for undo; the work itself stands in the classes inside.
 */
public final class SolarLedger {
    public static final int NONE = -1;
    public static final int SYNTAX_ERROR = -2;
    public static final int VALUE_ERROR = -3;
    public static final int TOO_MANY = -4;

    private static final int MAX_CAPACITY = 100_000;
    private static final int MAX_EXPIRY = 24;
    private static final int MAX_PERCENT = 100;
    private static final int MAX_PERIODS = 4;
    private static final int MAX_RATE = 200;
    private static final int MAX_PRIORITY = 9;
    private static final int MAX_SUBSCRIBERS = 16;
    private static final int MAX_CHANGES = 6;
    private static final int MAX_FORECAST = 12;
    private static final int MAX_TEXT = 300;
    private static final int MAX_WATT_HOURS = 1_000_000_000;
    private static final int MAX_AMOUNT = 1_000_000_000;
    private static final long MAX_BILL = 10_000_000_000L;
    private static final int HOURS = 24;
    private static final int MONTHS = 60;
    private static final int MONTH_DAYS = 30;

    /** The operator's place among the participants of a division: behind all subscribers. */
    private static final int OPERATOR = MAX_SUBSCRIBERS;
    private static final int PARTICIPANTS = MAX_SUBSCRIBERS + 1;

    private static final int WAITS = 0;
    private static final int ACTIVE = 1;
    private static final int LEFT = 2;

    /** The places of the accounts are the numbers that the method account takes. */
    private static final int DEBT = 0;
    private static final int BILL = 1;
    private static final int CASH = 2;
    private static final int PAID_OUT = 3;
    private static final int PAID_BY_LOTS = 4;
    private static final int EXPIRED = 5;
    private static final int ACCOUNTS = 6;

    private final Books books = new Books();
    private final History history = new History();
    private final GardenText text = new GardenText();
    private final Description description = new Description();
    private final Division division = new Division();
    private final Credits credits = new Credits();
    /** A copy on which forecasts try what would happen. */
    private final Subscriber trial = new Subscriber();
    private int errorAt = NONE;

    public SolarLedger() {
    }

    // ---- setup

    public int append(int a, int b, int c, int d, int e) throws IllegalStateException {
        if (!text.hasRoomFor(20)) {
            throw new IllegalStateException("the text would be longer than 300 bytes");
        }
        text.addWord(a);
        text.addWord(b);
        text.addWord(c);
        text.addWord(d);
        text.addWord(e);
        return text.length;
    }

    public int load(int length) throws IllegalArgumentException {
        if (length < 0 || length > text.length) {
            throw new IllegalArgumentException("the text buffer has no such length");
        }
        int error = text.read(length);
        if (error != GardenText.NO_ERROR) {
            errorAt = text.position;
            return error;
        }
        errorAt = NONE;
        history.keep(books);
        books.beginWith(text.garden);
        return books.garden.periodCount;
    }

    public int errorPosition() {
        return errorAt;
    }

    public int setting(int what) throws IllegalArgumentException {
        Garden garden = books.garden;
        switch (what) {
            case 0:
                return garden.capacity;
            case 1:
                return garden.expiry;
            case 2:
                return garden.buyout;
            case 3:
                return garden.limit;
            case 4:
                return garden.periodCount;
            case 5:
                return garden.greatestHolding();
            default:
                throw new IllegalArgumentException("there is no such setting");
        }
    }

    public int periodOf(int hour) throws IndexOutOfBoundsException {
        requireHour(hour);
        return books.garden.periodOfHour[hour];
    }

    // ---- subscribers

    public int join(int wanted, int minimum, int priority)
            throws IllegalArgumentException, IllegalStateException {
        if (wanted < 1 || wanted > books.garden.capacity) {
            throw new IllegalArgumentException("the wanted shares are out of range");
        }
        if (minimum < 1 || minimum > wanted) {
            throw new IllegalArgumentException("the minimum is out of range");
        }
        if (priority < 0 || priority > MAX_PRIORITY) {
            throw new IllegalArgumentException("the priority is out of range");
        }
        if (books.count >= MAX_SUBSCRIBERS) {
            throw new IllegalStateException("there are already 16 subscribers");
        }
        history.keep(books);
        return books.enrol(wanted, minimum, priority);
    }

    public int more(int subscriber, int count)
            throws IndexOutOfBoundsException, IllegalArgumentException, IllegalStateException {
        requireSubscriber(subscriber);
        requireCount(count);
        requireActive(subscriber);
        Subscriber holder = books.subscribers[subscriber];
        if (count > books.unheldShares()) {
            throw new IllegalStateException("fewer shares are free");
        }
        requireRoomForShares(holder, count);
        history.keep(books);
        holder.held += count;
        return holder.held;
    }

    public int reduce(int subscriber, int count)
            throws IndexOutOfBoundsException, IllegalArgumentException, IllegalStateException {
        requireSubscriber(subscriber);
        requireCount(count);
        requireActive(subscriber);
        Subscriber holder = books.subscribers[subscriber];
        requireShareKept(holder, count);
        history.keep(books);
        holder.held -= count;
        books.goThroughWaitingList();
        return books.unheldShares();
    }

    public int transfer(int from, int to, int count)
            throws IndexOutOfBoundsException, IllegalArgumentException, IllegalStateException {
        requireSubscriber(from);
        requireSubscriber(to);
        requireDifferent(from, to);
        requireCount(count);
        requireActive(from);
        requireActive(to);
        Subscriber giver = books.subscribers[from];
        Subscriber taker = books.subscribers[to];
        requireShareKept(giver, count);
        requireRoomForShares(taker, count);
        history.keep(books);
        giver.held -= count;
        taker.held += count;
        return taker.held;
    }

    public void assign(int subscriber, int to, int percent)
            throws IndexOutOfBoundsException, IllegalArgumentException, IllegalStateException {
        requireSubscriber(subscriber);
        requireSubscriber(to);
        requireDifferent(subscriber, to);
        if (percent < 0 || percent > MAX_PERCENT) {
            throw new IllegalArgumentException("the percentage is out of range");
        }
        if (percent > 0 && books.passesOnTo(to, subscriber)) {
            throw new IllegalArgumentException("the credits would come back");
        }
        requireActive(subscriber);
        requireActive(to);
        history.keep(books);
        books.subscribers[subscriber].setAssignment(to, percent);
    }

    public long leave(int subscriber) throws IndexOutOfBoundsException, IllegalStateException {
        requireSubscriber(subscriber);
        if (books.subscribers[subscriber].status == LEFT) {
            throw new IllegalStateException("the subscriber has left already");
        }
        history.keep(books);
        books.letGo(subscriber);
        return books.subscribers[subscriber].accounts[PAID_OUT];
    }

    public int subscriberCount() {
        return books.count;
    }

    public int state(int subscriber) throws IndexOutOfBoundsException {
        requireSubscriber(subscriber);
        return books.subscribers[subscriber].status;
    }

    public int shares(int subscriber) throws IndexOutOfBoundsException {
        requireSubscriber(subscriber);
        return books.subscribers[subscriber].held;
    }

    public int freeShares() {
        return books.unheldShares();
    }

    public int waitingPlace(int subscriber) throws IndexOutOfBoundsException {
        requireSubscriber(subscriber);
        return books.placeOnWaitingList(subscriber);
    }

    // ---- months

    public int passDays(int count) throws IllegalArgumentException, IllegalStateException {
        if (count < 1 || count > MONTH_DAYS) {
            throw new IllegalArgumentException("the number of days is out of range");
        }
        if (count > MONTH_DAYS - books.day) {
            throw new IllegalStateException("a month has 30 days");
        }
        history.keep(books);
        books.addDays(count);
        return books.day;
    }

    public int generate(int hour, int wattHours)
            throws IndexOutOfBoundsException, IllegalArgumentException, IllegalStateException {
        requireHour(hour);
        if (wattHours < 1 || wattHours > MAX_WATT_HOURS) {
            throw new IllegalArgumentException("the generation is out of range");
        }
        int cell = Meter.cell(books.month, books.garden.periodOfHour[hour]);
        int[] counted = books.meter.counted;
        if (wattHours > MAX_WATT_HOURS - counted[cell]) {
            throw new IllegalStateException("the sum of the period would exceed its limit");
        }
        history.keep(books);
        counted[cell] += wattHours;
        return counted[cell];
    }

    public long bill(int subscriber, int amount)
            throws IndexOutOfBoundsException, IllegalArgumentException, IllegalStateException {
        requireSubscriber(subscriber);
        if (amount < 1 || amount > MAX_AMOUNT) {
            throw new IllegalArgumentException("the amount is out of range");
        }
        requireActive(subscriber);
        long[] accounts = books.subscribers[subscriber].accounts;
        if (amount > MAX_BILL - accounts[BILL]) {
            throw new IllegalStateException("the bill would exceed its limit");
        }
        history.keep(books);
        accounts[BILL] += amount;
        return accounts[BILL];
    }

    public long endMonth() throws IllegalStateException {
        if (books.day < MONTH_DAYS) {
            throw new IllegalStateException("the month has not passed");
        }
        if (books.month >= MONTHS - 1) {
            throw new IllegalStateException("it is the last month");
        }
        history.keep(books);
        long value = books.valueOfMonth(books.month);
        division.weighShareDays(books, books.month, 0);
        division.divide(value);
        credits.passOn(books, division.parts);
        books.closeMonth(division.parts, credits.kept);
        return value;
    }

    public int month() {
        return books.month;
    }

    public int generation(int month, int period) throws IndexOutOfBoundsException {
        requireMonth(month);
        requirePeriod(period);
        return books.meter.counted[Meter.cell(month, period)];
    }

    public int shareDays(int month, int subscriber) throws IndexOutOfBoundsException {
        requireMonth(month);
        requireParticipant(subscriber);
        if (subscriber == NONE) {
            return books.operatorShareDays(month);
        }
        return books.subscribers[subscriber].days[month];
    }

    public long projectedPart(int subscriber) throws IndexOutOfBoundsException {
        requireParticipant(subscriber);
        weighProjected();
        division.divide(books.valueOfMonth(books.month));
        return division.parts[placeOf(subscriber)];
    }

    public long projectedCredit(int subscriber) throws IndexOutOfBoundsException {
        requireSubscriber(subscriber);
        weighProjected();
        division.divide(books.valueOfMonth(books.month));
        credits.passOn(books, division.parts);
        return credits.kept[subscriber];
    }

    public long forecastBalance(int subscriber, int ends)
            throws IndexOutOfBoundsException, IllegalArgumentException {
        requireSubscriber(subscriber);
        if (ends < 1 || ends > MAX_FORECAST) {
            throw new IllegalArgumentException("the number of ends is out of range");
        }
        trial.copyFrom(books.subscribers[subscriber]);
        long value = books.valueOfMonth(books.month);
        long bill = trial.accounts[BILL];
        weighProjected();
        division.divide(value);
        credits.passOn(books, division.parts);
        trial.finishMonth(credits.kept[subscriber], books.month, books.garden.expiry);
        division.weighShareDays(books, NONE, MONTH_DAYS);
        division.divide(value);
        credits.passOn(books, division.parts);
        for (int further = 1; further < ends; further++) {
            trial.accounts[BILL] = bill;
            trial.finishMonth(credits.kept[subscriber], books.month + further, books.garden.expiry);
        }
        return trial.lotSum();
    }

    public int neededRate(int subscriber, int period, long amount)
            throws IndexOutOfBoundsException, NoSuchElementException {
        requireParticipant(subscriber);
        requirePeriod(period);
        int place = placeOf(subscriber);
        long generated = books.meter.counted[Meter.cell(books.month, period)];
        long fromOthers = books.valueOfMonth(books.month) - generated * books.garden.rates[period];
        weighProjected();
        // A greater rate may make a part smaller by one (its remainder loses its rank), so that no
        // search by halves finds the least rate.
        for (int rate = 0; rate <= MAX_RATE; rate++) {
            division.divide(fromOthers + generated * rate);
            if (division.parts[place] >= amount) {
                return rate;
            }
        }
        throw new NoSuchElementException("there is no such rate");
    }

    public long issued(int month) throws IndexOutOfBoundsException {
        requireMonth(month);
        return books.valueOfMonth(month);
    }

    public long shareDayValue(int month, boolean denominator) throws IndexOutOfBoundsException {
        requireMonth(month);
        long numerator = books.valueOfMonth(month);
        long whole = books.garden.monthShareDays();
        long divisor = greatestDivisor(numerator, whole);
        return (denominator ? whole : numerator) / divisor;
    }

    public int neededShares(long amount) throws IllegalArgumentException, NoSuchElementException {
        if (amount < 0) {
            throw new IllegalArgumentException("the amount is negative");
        }
        long value = books.valueOfMonth(books.month);
        if (amount > value) {
            throw new NoSuchElementException("there is no such number of shares");
        }
        if (amount == 0 || value < 1) {
            return 1;
        }
        return (int) ((amount * books.garden.capacity + value - 1) / value);
    }

    // ---- credits

    public long balance(int subscriber) throws IndexOutOfBoundsException {
        requireSubscriber(subscriber);
        return books.subscribers[subscriber].lotSum();
    }

    public long lot(int subscriber, int month) throws IndexOutOfBoundsException {
        requireSubscriber(subscriber);
        requireMonth(month);
        return books.subscribers[subscriber].lots[month];
    }

    public long account(int subscriber, int what)
            throws IndexOutOfBoundsException, IllegalArgumentException {
        requireSubscriber(subscriber);
        if (what < 0 || what >= ACCOUNTS) {
            throw new IllegalArgumentException("there is no such account");
        }
        return books.subscribers[subscriber].accounts[what];
    }

    public long expiring(int subscriber) throws IndexOutOfBoundsException {
        requireSubscriber(subscriber);
        trial.copyFrom(books.subscribers[subscriber]);
        trial.payFromLots(trial.accounts[BILL]);
        return trial.takeExpiredLot(books.month - books.garden.expiry);
    }

    public int monthsCovered(int subscriber, long amount)
            throws IndexOutOfBoundsException, IllegalArgumentException {
        requireSubscriber(subscriber);
        if (amount < 1) {
            throw new IllegalArgumentException("the amount is less than 1");
        }
        trial.copyFrom(books.subscribers[subscriber]);
        int expiry = books.garden.expiry;
        // The newest lot that there can be, of the present month, is gone after expiry + 1 ends.
        for (int ends = 0; ends <= expiry; ends++) {
            if (trial.lotSum() < amount) {
                return ends;
            }
            trial.payFromLots(amount);
            trial.takeExpiredLot(books.month + ends - expiry);
        }
        return expiry + 1;
    }

    public long fund() {
        return books.commonFund;
    }

    public long operatorAccount() {
        return books.operatorMoney;
    }

    public int correct(int month, int period, int wattHours)
            throws IndexOutOfBoundsException, IllegalArgumentException {
        if (month < 0 || month >= books.month) {
            throw new IndexOutOfBoundsException("that is no past month");
        }
        requirePeriod(period);
        if (wattHours < 0 || wattHours > MAX_WATT_HOURS) {
            throw new IllegalArgumentException("the generation is out of range");
        }
        history.keep(books);
        int cell = Meter.cell(month, period);
        Meter meter = books.meter;
        meter.correction[cell] = wattHours - meter.counted[cell];
        return meter.counted[cell];
    }

    public long trueUp() {
        history.keep(books);
        long sum = 0;
        for (int past = 0; past < books.month; past++) {
            long difference = books.meter.correctionValue(past, books.garden);
            if (difference != 0) {
                division.weighShareDays(books, past, 0);
                division.divide(Math.abs(difference));
                books.settleTrueUp(division.parts, difference > 0);
            }
            books.meter.countCorrections(past);
            sum += difference;
        }
        return sum;
    }

    public long shareFund() throws IllegalStateException {
        if (books.commonFund <= 0) {
            throw new IllegalStateException("the fund is not positive");
        }
        if (books.heldShares() < 1) {
            throw new IllegalStateException("no subscriber is active");
        }
        history.keep(books);
        long amount = books.commonFund;
        division.weighHeldShares(books);
        division.divide(amount);
        books.commonFund = 0;
        books.creditParts(division.parts);
        return amount;
    }

    // ---- descriptions and undo

    public int describe(int subscriber) throws IndexOutOfBoundsException {
        requireSubscriber(subscriber);
        description.write(books, subscriber);
        return description.length;
    }

    public int describedByte(int index) throws IndexOutOfBoundsException {
        if (index < 0 || index >= description.length) {
            throw new IndexOutOfBoundsException("the description is not so long");
        }
        return description.bytes[index];
    }

    public int undo() throws IllegalStateException {
        if (history.size < 1) {
            throw new IllegalStateException("there is no change to undo");
        }
        history.restore(books);
        return history.size;
    }

    // ---- tests of arguments

    private void requireSubscriber(int subscriber) {
        if (subscriber < 0 || subscriber >= books.count) {
            throw new IndexOutOfBoundsException("there is no such subscriber");
        }
    }

    private void requireParticipant(int subscriber) {
        if (subscriber != NONE) {
            requireSubscriber(subscriber);
        }
    }

    private void requireMonth(int month) {
        if (month < 0 || month > books.month) {
            throw new IndexOutOfBoundsException("there is no such month");
        }
    }

    private void requirePeriod(int period) {
        if (period < 0 || period >= books.garden.periodCount) {
            throw new IndexOutOfBoundsException("there is no such period");
        }
    }

    private void requireHour(int hour) {
        if (hour < 0 || hour >= HOURS) {
            throw new IndexOutOfBoundsException("there is no such hour");
        }
    }

    private void requireCount(int count) {
        if (count < 1) {
            throw new IllegalArgumentException("the number of shares is less than 1");
        }
    }

    private void requireDifferent(int subscriber, int other) {
        if (subscriber == other) {
            throw new IllegalArgumentException("both subscribers are the same");
        }
    }

    private void requireActive(int subscriber) {
        if (!books.subscribers[subscriber].isActive()) {
            throw new IllegalStateException("the subscriber is not active");
        }
    }

    private void requireShareKept(Subscriber giver, int count) {
        if (count >= giver.held) {
            throw new IllegalStateException("the subscriber would keep no share");
        }
    }

    private void requireRoomForShares(Subscriber taker, int count) {
        // The difference cannot overflow, as the sum of both numbers of shares could.
        if (count > books.garden.greatestHolding() - taker.held) {
            throw new IllegalStateException("the subscriber would hold more shares than allowed");
        }
    }

    // ---- help for computations

    private void weighProjected() {
        division.weighShareDays(books, books.month, MONTH_DAYS - books.day);
    }

    private static int placeOf(int participant) {
        return participant == NONE ? OPERATOR : participant;
    }

    private static long greatestDivisor(long a, long b) {
        // Two steps halve the greater number at least: 200 steps are more than 64 bits can need.
        for (int step = 0; step < 200 && b != 0; step++) {
            long rest = a % b;
            a = b;
            b = rest;
        }
        return Math.max(a, 1);
    }

    /** The settings and the tariff. */
    private static final class Garden {
        private int capacity = 1000;
        private int expiry = 12;
        private int buyout = 50;
        private int limit = 100;
        private int periodCount = 1;
        private final int[] rates = {10, 0, 0, 0};
        private final int[] periodOfHour = new int[HOURS];

        private void copyFrom(Garden other) {
            capacity = other.capacity;
            expiry = other.expiry;
            buyout = other.buyout;
            limit = other.limit;
            periodCount = other.periodCount;
            System.arraycopy(other.rates, 0, rates, 0, MAX_PERIODS);
            System.arraycopy(other.periodOfHour, 0, periodOfHour, 0, HOURS);
        }

        private void clearPeriods() {
            periodCount = 0;
            Arrays.fill(periodOfHour, 0);
        }

        private void addPeriod(int rate) {
            if (periodCount < MAX_PERIODS) {
                rates[periodCount] = rate;
                periodCount++;
            }
        }

        private void setHours(int first, int end, int period) {
            for (int hour = Math.max(first, 0); hour < end && hour < HOURS; hour++) {
                periodOfHour[hour] = period;
            }
        }

        private int greatestHolding() {
            return Math.max(1, capacity * limit / 100);
        }

        private int monthShareDays() {
            return MONTH_DAYS * capacity;
        }
    }

    /** The text buffer, and the reader of the grammar. */
    private static final class GardenText {
        private static final int NO_ERROR = 0;
        private static final String GARDEN_WORD = "garden";
        private static final String PERIOD_WORD = "period";
        private static final String HOURS_WORD = "hours";
        /** Numbers stop growing here, above every range, so that long ones do not overflow. */
        private static final int HUGE = 10_000_000;

        private final byte[] bytes = new byte[MAX_TEXT];
        private int length;
        private int end;
        /** Behind what has been read; after an error, where it is. */
        private int position;
        private int error;
        /** What has been read; of use only if there was no error. */
        private final Garden garden = new Garden();

        private boolean hasRoomFor(int count) {
            return count <= MAX_TEXT - length;
        }

        private void addWord(int word) {
            for (int shift = 24; shift >= 0; shift -= 8) {
                if (length < MAX_TEXT) {
                    bytes[length] = (byte) (word >>> shift);
                    length++;
                }
            }
        }

        private int read(int textLength) {
            end = Math.min(textLength, MAX_TEXT);
            position = 0;
            error = NO_ERROR;
            length = 0;
            garden.clearPeriods();
            readGardenStatement();
            readPeriodStatement();
            readFurtherStatements();
            return error;
        }

        private void readGardenStatement() {
            expectWord(GARDEN_WORD);
            garden.capacity = expectNumber(1, MAX_CAPACITY);
            garden.expiry = expectNumber(1, MAX_EXPIRY);
            garden.buyout = expectNumber(0, MAX_PERCENT);
            garden.limit = expectNumber(1, MAX_PERCENT);
            expectSemicolon();
        }

        private void readPeriodStatement() {
            expectWord(PERIOD_WORD);
            garden.addPeriod(expectNumber(0, MAX_RATE));
            expectSemicolon();
        }

        private void readHoursStatement() {
            expectWord(HOURS_WORD);
            int first = expectNumber(0, HOURS - 1);
            int behind = expectNumber(first + 1, HOURS);
            int period = expectNumber(0, garden.periodCount - 1);
            expectSemicolon();
            if (error == NO_ERROR) {
                garden.setHours(first, behind, period);
            }
        }

        private void readFurtherStatements() {
            boolean hoursSeen = false;
            // Every statement takes bytes, so that there are fewer of them than bytes.
            for (int statement = 0; statement < MAX_TEXT && error == NO_ERROR; statement++) {
                skipSpaces();
                if (position >= end) {
                    return;
                }
                if (standsHere(HOURS_WORD)) {
                    hoursSeen = true;
                    readHoursStatement();
                } else if (!hoursSeen && standsHere(PERIOD_WORD)) {
                    if (garden.periodCount >= MAX_PERIODS) {
                        error = TOO_MANY;
                    } else {
                        readPeriodStatement();
                    }
                } else {
                    error = SYNTAX_ERROR;
                }
            }
        }

        // After an error the expect methods do nothing: reading has stopped.

        private void expectWord(String word) {
            skipSpaces();
            if (error != NO_ERROR) {
                return;
            }
            if (standsHere(word)) {
                position += word.length();
            } else {
                error = SYNTAX_ERROR;
            }
        }

        private int expectNumber(int least, int greatest) {
            skipSpaces();
            if (error != NO_ERROR) {
                return 0;
            }
            int start = position;
            int number = 0;
            while (position < end && isDigit(position)) {
                number = Math.min(HUGE, number * 10 + bytes[position] - '0');
                position++;
            }
            if (position == start) {
                error = SYNTAX_ERROR;
            } else if (number < least || number > greatest) {
                error = VALUE_ERROR;
                position = start;
            }
            return number;
        }

        private void expectSemicolon() {
            skipSpaces();
            if (error != NO_ERROR) {
                return;
            }
            if (position < end && bytes[position] == ';') {
                position++;
            } else {
                error = SYNTAX_ERROR;
            }
        }

        private void skipSpaces() {
            while (error == NO_ERROR && position < end && bytes[position] == ' ') {
                position++;
            }
        }

        /** A longer word that begins with the wanted one is another word. */
        private boolean standsHere(String word) {
            int behind = position + word.length();
            if (behind > end) {
                return false;
            }
            for (int i = 0; i < word.length(); i++) {
                if (bytes[position + i] != word.charAt(i)) {
                    return false;
                }
            }
            return behind == end || !isLetter(behind);
        }

        private boolean isLetter(int index) {
            return bytes[index] >= 'a' && bytes[index] <= 'z';
        }

        private boolean isDigit(int index) {
            return bytes[index] >= '0' && bytes[index] <= '9';
        }
    }

    /** Generation by months and periods. */
    private static final class Meter {
        private final int[] counted = new int[MONTHS * MAX_PERIODS];
        /** What the next true-up adds to the counted generation; 0 where nothing was corrected. */
        private final int[] correction = new int[MONTHS * MAX_PERIODS];

        private static int cell(int month, int period) {
            return month * MAX_PERIODS + period;
        }

        private void clear() {
            Arrays.fill(counted, 0);
            Arrays.fill(correction, 0);
        }

        private void copyFrom(Meter other) {
            System.arraycopy(other.counted, 0, counted, 0, counted.length);
            System.arraycopy(other.correction, 0, correction, 0, correction.length);
        }

        private long countedValue(int month, Garden garden) {
            return value(counted, month, garden);
        }

        private long correctionValue(int month, Garden garden) {
            return value(correction, month, garden);
        }

        private static long value(int[] wattHours, int month, Garden garden) {
            long sum = 0;
            for (int period = 0; period < garden.periodCount; period++) {
                sum += (long) wattHours[cell(month, period)] * garden.rates[period];
            }
            return sum;
        }

        private void countCorrections(int month) {
            for (int period = 0; period < MAX_PERIODS; period++) {
                int cell = cell(month, period);
                counted[cell] += correction[cell];
                correction[cell] = 0;
            }
        }
    }

    /** A subscriber with its shares, lots and accounts. */
    private static final class Subscriber {
        private int status;
        private int wanted;
        private int minimum;
        private int priority;
        private int held;
        private int assignee = NONE;
        private int percent;
        private final int[] days = new int[MONTHS];
        /** A forecast may reach beyond the last month. */
        private final long[] lots = new long[MONTHS + MAX_FORECAST];
        private final long[] accounts = new long[ACCOUNTS];

        private void begin(int wantedShares, int leastShares, int rank) {
            status = WAITS;
            wanted = wantedShares;
            minimum = leastShares;
            priority = rank;
            held = 0;
            setAssignment(NONE, 0);
            Arrays.fill(days, 0);
            Arrays.fill(lots, 0);
            Arrays.fill(accounts, 0);
        }

        private void copyFrom(Subscriber other) {
            status = other.status;
            wanted = other.wanted;
            minimum = other.minimum;
            priority = other.priority;
            held = other.held;
            assignee = other.assignee;
            percent = other.percent;
            System.arraycopy(other.days, 0, days, 0, days.length);
            System.arraycopy(other.lots, 0, lots, 0, lots.length);
            System.arraycopy(other.accounts, 0, accounts, 0, accounts.length);
        }

        private boolean isActive() {
            return status == ACTIVE;
        }

        private void setAssignment(int to, int percentage) {
            assignee = percentage > 0 ? to : NONE;
            percent = percentage;
        }

        private boolean isAheadOf(Subscriber laterNumber) {
            return priority >= laterNumber.priority;
        }

        private long lotSum() {
            long sum = 0;
            for (int month = 0; month < lots.length; month++) {
                sum += lots[month];
            }
            return sum;
        }

        private void takeCredit(long credit, int month) {
            long repaid = Math.min(credit, accounts[DEBT]);
            accounts[DEBT] -= repaid;
            if (month >= 0 && month < lots.length) {
                lots[month] += credit - repaid;
            }
        }

        private void loseCredit(long amount) {
            long left = amount;
            for (int month = lots.length - 1; month >= 0 && left > 0; month--) {
                long lost = Math.min(left, lots[month]);
                lots[month] -= lost;
                left -= lost;
            }
            accounts[DEBT] += left;
        }

        /** Answers what the lots did not suffice for. */
        private long payFromLots(long amount) {
            long left = amount;
            for (int month = 0; month < lots.length && left > 0; month++) {
                long paid = Math.min(left, lots[month]);
                lots[month] -= paid;
                left -= paid;
            }
            return left;
        }

        private void payBill() {
            long owed = accounts[BILL];
            long unpaid = payFromLots(owed);
            accounts[PAID_BY_LOTS] += owed - unpaid;
            accounts[CASH] += unpaid;
            accounts[BILL] = 0;
        }

        private long takeExpiredLot(int month) {
            if (month < 0 || month >= lots.length) {
                return 0;
            }
            long amount = lots[month];
            lots[month] = 0;
            accounts[EXPIRED] += amount;
            return amount;
        }

        /** Steps 3 to 5 of the end of a month; answers what expired. */
        private long finishMonth(long credit, int month, int expiry) {
            takeCredit(credit, month);
            payBill();
            return takeExpiredLot(month - expiry);
        }

        /** Settles an exit; answers what the fund gets by it, which may be negative. */
        private long closeAccounts(int buyout) {
            long sum = lotSum();
            long repaid = Math.min(sum, accounts[DEBT]);
            long openDebt = accounts[DEBT] - repaid;
            long rest = sum - repaid;
            long paidOut = rest * buyout / 100;
            Arrays.fill(lots, 0);
            accounts[DEBT] = 0;
            accounts[CASH] += accounts[BILL];
            accounts[BILL] = 0;
            accounts[PAID_OUT] = paidOut;
            return rest - paidOut - openDebt;
        }
    }

    /** All that undo brings back. */
    private static final class Books {
        private final Garden garden = new Garden();
        private final Meter meter = new Meter();
        private final Subscriber[] subscribers = new Subscriber[MAX_SUBSCRIBERS];
        private int count;
        private int month;
        private int day;
        private long commonFund;
        private long operatorMoney;

        private Books() {
            for (int i = 0; i < MAX_SUBSCRIBERS; i++) {
                subscribers[i] = new Subscriber();
            }
        }

        private void copyFrom(Books other) {
            garden.copyFrom(other.garden);
            meter.copyFrom(other.meter);
            count = other.count;
            month = other.month;
            day = other.day;
            commonFund = other.commonFund;
            operatorMoney = other.operatorMoney;
            // The rows behind the last subscriber mean nothing: who joins begins a new one.
            for (int i = 0; i < count; i++) {
                subscribers[i].copyFrom(other.subscribers[i]);
            }
        }

        private void beginWith(Garden newGarden) {
            garden.copyFrom(newGarden);
            meter.clear();
            count = 0;
            month = 0;
            day = 0;
            commonFund = 0;
            operatorMoney = 0;
        }

        private int enrol(int wanted, int minimum, int priority) {
            int number = count;
            if (number < MAX_SUBSCRIBERS) {
                subscribers[number].begin(wanted, minimum, priority);
                count++;
                goThroughWaitingList();
            }
            return number;
        }

        private int heldShares() {
            int sum = 0;
            for (int i = 0; i < count; i++) {
                sum += subscribers[i].held;
            }
            return sum;
        }

        private int unheldShares() {
            return garden.capacity - heldShares();
        }

        private void goThroughWaitingList() {
            for (int priority = MAX_PRIORITY; priority >= 0; priority--) {
                for (int i = 0; i < count; i++) {
                    Subscriber subscriber = subscribers[i];
                    if (subscriber.status == WAITS && subscriber.priority == priority) {
                        offerShares(subscriber);
                    }
                }
            }
        }

        private void offerShares(Subscriber subscriber) {
            int offered = Math.min(unheldShares(), garden.greatestHolding());
            offered = Math.min(offered, subscriber.wanted);
            if (offered >= subscriber.minimum) {
                subscriber.status = ACTIVE;
                subscriber.held = offered;
            }
        }

        private int placeOnWaitingList(int number) {
            Subscriber subscriber = subscribers[number];
            if (subscriber.status != WAITS) {
                return NONE;
            }
            int place = 0;
            for (int i = 0; i < count; i++) {
                Subscriber other = subscribers[i];
                if (i != number && other.status == WAITS
                        && (i < number ? other.isAheadOf(subscriber)
                                : !subscriber.isAheadOf(other))) {
                    place++;
                }
            }
            return place;
        }

        /** Whether credits that one subscriber gets come to another one by assignments. */
        private boolean passesOnTo(int from, int target) {
            int at = from;
            for (int step = 0; step < MAX_SUBSCRIBERS && at >= 0 && at < count; step++) {
                if (at == target) {
                    return true;
                }
                at = subscribers[at].assignee;
            }
            return false;
        }

        private void letGo(int number) {
            Subscriber subscriber = subscribers[number];
            boolean wasActive = subscriber.isActive();
            subscriber.status = LEFT;
            if (wasActive) {
                commonFund += subscriber.closeAccounts(garden.buyout);
                subscriber.held = 0;
                endAssignments(number);
                goThroughWaitingList();
            }
        }

        private void endAssignments(int number) {
            subscribers[number].setAssignment(NONE, 0);
            for (int i = 0; i < count; i++) {
                if (subscribers[i].assignee == number) {
                    subscribers[i].setAssignment(NONE, 0);
                }
            }
        }

        private void addDays(int passed) {
            day += passed;
            for (int i = 0; i < count; i++) {
                subscribers[i].days[month] += subscribers[i].held * passed;
            }
        }

        private int operatorShareDays(int ofMonth) {
            int passed = ofMonth == month ? day : MONTH_DAYS;
            int left = passed * garden.capacity;
            for (int i = 0; i < count; i++) {
                left -= subscribers[i].days[ofMonth];
            }
            return left;
        }

        private long valueOfMonth(int ofMonth) {
            return meter.countedValue(ofMonth, garden);
        }

        private void closeMonth(long[] parts, long[] kept) {
            operatorMoney += parts[OPERATOR];
            for (int i = 0; i < count; i++) {
                Subscriber subscriber = subscribers[i];
                if (subscriber.isActive()) {
                    commonFund += subscriber.finishMonth(kept[i], month, garden.expiry);
                } else {
                    commonFund += parts[i];
                }
            }
            month++;
            day = 0;
        }

        private void settleTrueUp(long[] parts, boolean positive) {
            if (positive) {
                creditParts(parts);
                return;
            }
            operatorMoney -= parts[OPERATOR];
            for (int i = 0; i < count; i++) {
                if (subscribers[i].isActive()) {
                    subscribers[i].loseCredit(parts[i]);
                } else {
                    commonFund -= parts[i];
                }
            }
        }

        private void creditParts(long[] parts) {
            operatorMoney += parts[OPERATOR];
            for (int i = 0; i < count; i++) {
                if (subscribers[i].isActive()) {
                    subscribers[i].takeCredit(parts[i], month);
                } else {
                    commonFund += parts[i];
                }
            }
        }
    }

    /** The states before the latest changes, as a ring. */
    private static final class History {
        /** Books are made when they are first wanted: most ledgers see few changes. */
        private final Books[] ring = new Books[MAX_CHANGES];
        private int next;
        private int size;

        private void keep(Books books) {
            Books kept = ring[next];
            if (kept == null) {
                kept = new Books();
                ring[next] = kept;
            }
            kept.copyFrom(books);
            next = (next + 1) % MAX_CHANGES;
            size = Math.min(size + 1, MAX_CHANGES);
        }

        private void restore(Books books) {
            next = (next + MAX_CHANGES - 1) % MAX_CHANGES;
            size = Math.max(size - 1, 0);
            Books kept = ring[next];
            if (kept != null) {
                books.copyFrom(kept);
            }
        }
    }

    /** Work rows of a division among the subscribers and the operator. */
    private static final class Division {
        /** Below every remainder, so that nobody gets a second one. */
        private static final long GIVEN = -1;

        private final long[] weights = new long[PARTICIPANTS];
        private long total;
        private final long[] remainders = new long[PARTICIPANTS];
        private final long[] parts = new long[PARTICIPANTS];

        /** Takes the share-days of a month (or NONE), and further days of the shares held now. */
        private void weighShareDays(Books books, int month, int furtherDays) {
            long ofSubscribers = weighSubscribers(books, month, furtherDays);
            total = books.garden.monthShareDays();
            weights[OPERATOR] = total - ofSubscribers;
        }

        /** Takes the shares held now, without the operator. */
        private void weighHeldShares(Books books) {
            total = weighSubscribers(books, NONE, 1);
        }

        private long weighSubscribers(Books books, int month, int furtherDays) {
            long sum = 0;
            Arrays.fill(weights, 0);
            for (int i = 0; i < books.count; i++) {
                Subscriber subscriber = books.subscribers[i];
                long weight = (long) subscriber.held * furtherDays;
                if (month >= 0 && month < MONTHS) {
                    weight += subscriber.days[month];
                }
                weights[i] = weight;
                sum += weight;
            }
            return sum;
        }

        private void divide(long amount) {
            if (total < 1) {
                Arrays.fill(parts, 0);
                return;
            }
            long left = amount;
            for (int i = 0; i < PARTICIPANTS; i++) {
                // At most 8e11 * 3e6 by share-days, and 5e13 * 1e5 by shares: a long holds both.
                long product = amount * weights[i];
                parts[i] = product / total;
                remainders[i] = product % total;
                left -= parts[i];
            }
            for (int given = 0; given < PARTICIPANTS && left > 0; given++) {
                giveToGreatestRemainder();
                left--;
            }
        }

        private void giveToGreatestRemainder() {
            int best = 0;
            for (int i = 1; i < PARTICIPANTS; i++) {
                if (remainders[i] > remainders[best]) {
                    best = i;
                }
            }
            parts[best]++;
            remainders[best] = GIVEN;
        }
    }

    /** Work rows of step 2 of the end of a month. */
    private static final class Credits {
        private static final int SETTLED = -1;

        /** How many subscribers have still to pass something on to each one, or SETTLED. */
        private final int[] awaited = new int[MAX_SUBSCRIBERS];
        private final long[] kept = new long[MAX_SUBSCRIBERS];

        /** Leaves in kept the credit of each active subscriber, and 0 for the others. */
        private void passOn(Books books, long[] parts) {
            Arrays.fill(awaited, 0);
            for (int i = 0; i < books.count; i++) {
                Subscriber subscriber = books.subscribers[i];
                kept[i] = subscriber.isActive() ? parts[i] : 0;
                if (hasAssignee(books, subscriber)) {
                    awaited[subscriber.assignee]++;
                }
            }
            // Assignments form no circle, so that each round settles one subscriber at least.
            for (int round = 0; round < books.count; round++) {
                passOnSettled(books);
            }
        }

        private void passOnSettled(Books books) {
            for (int i = 0; i < books.count; i++) {
                if (awaited[i] == 0) {
                    awaited[i] = SETTLED;
                    passOnFrom(books, i);
                }
            }
        }

        private void passOnFrom(Books books, int number) {
            Subscriber subscriber = books.subscribers[number];
            if (hasAssignee(books, subscriber)) {
                long passed = kept[number] * subscriber.percent / 100;
                kept[number] -= passed;
                kept[subscriber.assignee] += passed;
                awaited[subscriber.assignee]--;
            }
        }

        private static boolean hasAssignee(Books books, Subscriber subscriber) {
            return subscriber.assignee >= 0 && subscriber.assignee < books.count;
        }
    }

    /** The latest description. */
    private static final class Description {
        /** More than the longest description needs. */
        private final byte[] bytes = new byte[80];
        private int length;

        private void write(Books books, int number) {
            Subscriber subscriber = books.subscribers[number];
            length = 0;
            putNumber(number);
            putText(":");
            if (subscriber.status == WAITS) {
                putText("waiting ");
                putNumber(books.placeOnWaitingList(number));
                putText(" ");
                putNumber(subscriber.minimum);
            } else if (subscriber.status == ACTIVE) {
                putText("active ");
                putNumber(subscriber.held);
                putText(" ");
                putMoney(subscriber.lotSum());
                putAssignment(subscriber);
            } else {
                putText("left ");
                putMoney(subscriber.accounts[PAID_OUT]);
            }
        }

        private void putAssignment(Subscriber subscriber) {
            if (subscriber.assignee != NONE) {
                putText(" ->");
                putNumber(subscriber.assignee);
                putText(":");
                putNumber(subscriber.percent);
                putText("%");
            }
        }

        private void putText(String text) {
            for (int i = 0; i < text.length(); i++) {
                putByte(text.charAt(i));
            }
        }

        private void putMoney(long millicents) {
            putNumber(millicents / 1000);
            putText(".");
            putByte('0' + (int) (millicents / 100 % 10));
            putByte('0' + (int) (millicents / 10 % 10));
            putByte('0' + (int) (millicents % 10));
        }

        private void putNumber(long number) {
            long unit = 1;
            for (int digit = 1; digit < 19 && number / unit >= 10; digit++) {
                unit *= 10;
            }
            for (; unit > 0; unit /= 10) {
                putByte('0' + (int) (number / unit % 10));
            }
        }

        private void putByte(int value) {
            if (length < bytes.length) {
                bytes[length] = (byte) value;
                length++;
            }
        }
    }
}
