import java.math.BigInteger;
import java.util.ArrayDeque;
import java.util.ArrayList;
import java.util.Arrays;
import java.util.Comparator;
import java.util.Deque;
import java.util.List;
import java.util.Map;
import java.util.NoSuchElementException;
import java.util.TreeMap;

/**
 * A second program after the same document, written for plainness: states are copied whole, lots
 * are maps, products have no bound, and forecasts really end the months of a copy.
 */
final class Model {
    /** What undo brings back. */
    private static final class World {
        int capacity = 1000;
        int expiry = 12;
        int buyout = 50;
        int limit = 100;
        List<Integer> rates = new ArrayList<>(List.of(10));
        int[] hours = new int[24];
        List<Member> members = new ArrayList<>();
        int month;
        int day;
        long fund;
        long operator;
        /** Month to Wh by periods. */
        Map<Integer, long[]> generation = new TreeMap<>();
        Map<Integer, Map<Integer, Integer>> corrections = new TreeMap<>();

        World copy() {
            World w = new World();
            w.capacity = capacity;
            w.expiry = expiry;
            w.buyout = buyout;
            w.limit = limit;
            w.rates = new ArrayList<>(rates);
            w.hours = hours.clone();
            for (Member m : members) {
                w.members.add(m.copy());
            }
            w.month = month;
            w.day = day;
            w.fund = fund;
            w.operator = operator;
            for (Map.Entry<Integer, long[]> e : generation.entrySet()) {
                w.generation.put(e.getKey(), e.getValue().clone());
            }
            for (Map.Entry<Integer, Map<Integer, Integer>> e : corrections.entrySet()) {
                w.corrections.put(e.getKey(), new TreeMap<>(e.getValue()));
            }
            return w;
        }

        long[] wattHours(int ofMonth) {
            return generation.computeIfAbsent(ofMonth, k -> new long[4]);
        }

        long value(int ofMonth) {
            long sum = 0;
            for (int p = 0; p < rates.size(); p++) {
                sum += wattHours(ofMonth)[p] * rates.get(p);
            }
            return sum;
        }

        int maxShares() {
            return Math.max(1, (int) ((long) capacity * limit / 100));
        }

        int free() {
            return capacity - members.stream().mapToInt(m -> m.shares).sum();
        }

        List<Integer> waiting() {
            List<Integer> list = new ArrayList<>();
            for (int i = 0; i < members.size(); i++) {
                if (members.get(i).state == 0) {
                    list.add(i);
                }
            }
            list.sort(Comparator.comparing((Integer i) -> -members.get(i).priority)
                    .thenComparing(i -> i));
            return list;
        }

        void goThroughList() {
            for (int i : waiting()) {
                Member m = members.get(i);
                int n = Math.min(Math.min(m.wanted, free()), maxShares());
                if (n >= m.minimum) {
                    m.state = 1;
                    m.shares = n;
                }
            }
        }

        void pass(int days) {
            day += days;
            for (Member m : members) {
                m.shareDays.merge(month, m.shares * days, Integer::sum);
            }
        }

        /** Share-days of all subscribers, the operator's behind them. */
        long[] weights(int ofMonth) {
            long[] w = new long[members.size() + 1];
            long rest = 30L * capacity;
            for (int i = 0; i < members.size(); i++) {
                w[i] = members.get(i).shareDays.getOrDefault(ofMonth, 0);
                rest -= w[i];
            }
            w[members.size()] = rest;
            return w;
        }

        long receives(int i, long[] parts) {
            long sum = parts[i];
            for (int j = 0; j < members.size(); j++) {
                if (members.get(j).to == i) {
                    sum += passes(j, parts);
                }
            }
            return sum;
        }

        long passes(int i, long[] parts) {
            Member m = members.get(i);
            return m.to < 0 ? 0 : receives(i, parts) * m.percent / 100;
        }

        long credit(int i, long[] parts) {
            return members.get(i).state == 1 ? receives(i, parts) - passes(i, parts) : 0;
        }

        void end() {
            long[] parts = divide(value(month), weights(month));
            operator += parts[members.size()];
            for (int i = 0; i < members.size(); i++) {
                Member m = members.get(i);
                if (m.state == 2) {
                    fund += parts[i];
                }
                if (m.state == 1) {
                    m.credit(month, credit(i, parts));
                    m.payBill();
                    Long old = m.lots.remove(month - expiry);
                    if (old != null) {
                        fund += old;
                        m.expired += old;
                    }
                }
            }
            month++;
            day = 0;
        }

        void book(long[] parts) {
            for (int i = 0; i < members.size(); i++) {
                Member m = members.get(i);
                if (m.state != 1) {
                    fund += parts[i];
                } else if (parts[i] >= 0) {
                    m.credit(month, parts[i]);
                } else {
                    m.lose(-parts[i]);
                }
            }
            if (parts.length > members.size()) {
                operator += parts[members.size()];
            }
        }
    }

    private static final class Member {
        int state;
        int wanted;
        int minimum;
        int priority;
        int shares;
        int to = -1;
        int percent;
        Map<Integer, Integer> shareDays = new TreeMap<>();
        TreeMap<Integer, Long> lots = new TreeMap<>();
        long debt;
        long bill;
        long cash;
        long paidOut;
        long paid;
        long expired;

        Member copy() {
            Member m = new Member();
            m.state = state;
            m.wanted = wanted;
            m.minimum = minimum;
            m.priority = priority;
            m.shares = shares;
            m.to = to;
            m.percent = percent;
            m.shareDays = new TreeMap<>(shareDays);
            m.lots = new TreeMap<>(lots);
            m.debt = debt;
            m.bill = bill;
            m.cash = cash;
            m.paidOut = paidOut;
            m.paid = paid;
            m.expired = expired;
            return m;
        }

        long balance() {
            return lots.values().stream().mapToLong(v -> v).sum();
        }

        void credit(int month, long amount) {
            if (amount <= debt) {
                debt -= amount;
            } else {
                lots.merge(month, amount - debt, Long::sum);
                debt = 0;
            }
        }

        /** Takes from the lots in the given order; answers what they do not cover. */
        long take(Iterable<Integer> order, long amount) {
            List<Integer> months = new ArrayList<>();
            order.forEach(months::add);
            long open = amount;
            for (int month : months) {
                long part = Math.min(open, lots.get(month));
                open -= part;
                lots.put(month, lots.get(month) - part);
            }
            return open;
        }

        void lose(long amount) {
            debt += take(lots.descendingKeySet(), amount);
        }

        void payBill() {
            long open = take(lots.keySet(), bill);
            paid += bill - open;
            cash += open;
            bill = 0;
        }
    }

    private World now = new World();
    private final Deque<World> past = new ArrayDeque<>();
    private final List<Integer> buffer = new ArrayList<>();
    private int error = -1;
    private String described = "";

    /** Largest remainders first; equal ones in order. */
    static long[] divide(long amount, long[] weights) {
        BigInteger total = BigInteger.valueOf(Arrays.stream(weights).sum());
        long[] parts = new long[weights.length];
        BigInteger[] rests = new BigInteger[weights.length];
        List<Integer> order = new ArrayList<>();
        long left = amount;
        for (int i = 0; i < weights.length; i++) {
            BigInteger[] quotient = BigInteger.valueOf(amount)
                    .multiply(BigInteger.valueOf(weights[i])).divideAndRemainder(total);
            parts[i] = quotient[0].longValueExact();
            rests[i] = quotient[1];
            left -= parts[i];
            order.add(i);
        }
        order.sort((a, b) -> rests[b].compareTo(rests[a]));
        for (int i = 0; i < left; i++) {
            parts[order.get(i)]++;
        }
        return parts;
    }

    private static void argument(boolean right) {
        if (!right) {
            throw new IllegalArgumentException();
        }
    }

    private static void index(boolean right) {
        if (!right) {
            throw new IndexOutOfBoundsException();
        }
    }

    private static void state(boolean right) {
        if (!right) {
            throw new IllegalStateException();
        }
    }

    private Member member(int i) {
        index(i >= 0 && i < now.members.size());
        return now.members.get(i);
    }

    private void change() {
        past.push(now.copy());
        if (past.size() > 6) {
            past.removeLast();
        }
    }

    int append(int... words) {
        state(buffer.size() <= 280);
        for (int word : words) {
            buffer.add(word >> 24 & 255);
            buffer.add(word >> 16 & 255);
            buffer.add(word >> 8 & 255);
            buffer.add(word & 255);
        }
        return buffer.size();
    }

    int load(int length) {
        argument(length >= 0 && length <= buffer.size());
        StringBuilder text = new StringBuilder();
        for (int i = 0; i < length; i++) {
            text.append((char) (int) buffer.get(i));
        }
        buffer.clear();
        ModelText read = new ModelText(text.toString());
        error = read.errorPosition;
        if (read.error != 0) {
            return read.error;
        }
        change();
        now = new World();
        now.capacity = read.numbers.get(0);
        now.expiry = read.numbers.get(1);
        now.buyout = read.numbers.get(2);
        now.limit = read.numbers.get(3);
        now.rates = read.rates;
        now.hours = read.hours;
        return now.rates.size();
    }

    int errorPosition() {
        return error;
    }

    int setting(int what) {
        argument(what >= 0 && what <= 5);
        return new int[] {now.capacity, now.expiry, now.buyout, now.limit, now.rates.size(),
            now.maxShares()}[what];
    }

    int periodOf(int hour) {
        index(hour >= 0 && hour < 24);
        return now.hours[hour];
    }

    int join(int wanted, int minimum, int priority) {
        argument(wanted >= 1 && wanted <= now.capacity);
        argument(minimum >= 1 && minimum <= wanted);
        argument(priority >= 0 && priority <= 9);
        state(now.members.size() < 16);
        change();
        Member m = new Member();
        m.wanted = wanted;
        m.minimum = minimum;
        m.priority = priority;
        now.members.add(m);
        now.goThroughList();
        return now.members.size() - 1;
    }

    int more(int subscriber, int count) {
        Member m = member(subscriber);
        argument(count >= 1);
        state(m.state == 1 && count <= now.free() && (long) m.shares + count <= now.maxShares());
        change();
        return m.shares += count;
    }

    int reduce(int subscriber, int count) {
        Member m = member(subscriber);
        argument(count >= 1);
        state(m.state == 1 && (long) m.shares - count >= 1);
        change();
        m.shares -= count;
        now.goThroughList();
        return now.free();
    }

    int transfer(int from, int to, int count) {
        Member a = member(from);
        Member b = member(to);
        argument(from != to && count >= 1);
        state(a.state == 1 && b.state == 1 && (long) a.shares - count >= 1
                && (long) b.shares + count <= now.maxShares());
        change();
        a.shares -= count;
        return b.shares += count;
    }

    int assign(int subscriber, int to, int percent) {
        Member m = member(subscriber);
        Member other = member(to);
        argument(subscriber != to && percent >= 0 && percent <= 100);
        if (percent > 0) {
            for (int i = to; i >= 0; i = now.members.get(i).to) {
                argument(i != subscriber);
            }
        }
        state(m.state == 1 && other.state == 1);
        change();
        m.to = percent == 0 ? -1 : to;
        m.percent = percent;
        return 0;
    }

    long leave(int subscriber) {
        Member m = member(subscriber);
        state(m.state != 2);
        change();
        if (m.state == 0) {
            m.state = 2;
            return 0;
        }
        long worth = m.balance() - m.debt;
        if (worth < 0) {
            now.fund += worth;
        } else {
            m.paidOut = worth * now.buyout / 100;
            now.fund += worth - m.paidOut;
        }
        m.debt = 0;
        m.lots.clear();
        m.cash += m.bill;
        m.bill = 0;
        m.state = 2;
        m.shares = 0;
        m.to = -1;
        for (Member other : now.members) {
            if (other.to == subscriber) {
                other.to = -1;
            }
        }
        now.goThroughList();
        return m.paidOut;
    }

    /** For whoever makes up calls; the ledger has no such method. */
    int daysPassed() {
        return now.day;
    }

    int subscriberCount() {
        return now.members.size();
    }

    int state(int subscriber) {
        return member(subscriber).state;
    }

    int shares(int subscriber) {
        return member(subscriber).shares;
    }

    int freeShares() {
        return now.free();
    }

    int waitingPlace(int subscriber) {
        member(subscriber);
        return now.waiting().indexOf(subscriber);
    }

    int passDays(int count) {
        argument(count >= 1 && count <= 30);
        state(now.day + count <= 30);
        change();
        now.pass(count);
        return now.day;
    }

    int generate(int hour, int wattHours) {
        index(hour >= 0 && hour <= 23);
        argument(wattHours >= 1 && wattHours <= 1_000_000_000);
        int period = now.hours[hour];
        state(now.wattHours(now.month)[period] + wattHours <= 1_000_000_000);
        change();
        return (int) (now.wattHours(now.month)[period] += wattHours);
    }

    long bill(int subscriber, int amount) {
        Member m = member(subscriber);
        argument(amount >= 1 && amount <= 1_000_000_000);
        state(m.state == 1 && m.bill + amount <= 10_000_000_000L);
        change();
        return m.bill += amount;
    }

    long endMonth() {
        state(now.day == 30 && now.month != 59);
        change();
        now.end();
        return now.value(now.month - 1);
    }

    int month() {
        return now.month;
    }

    int generation(int month, int period) {
        index(month >= 0 && month <= now.month && period >= 0 && period < now.rates.size());
        return (int) now.wattHours(month)[period];
    }

    int shareDays(int month, int subscriber) {
        index(month >= 0 && month <= now.month);
        if (subscriber != -1) {
            return member(subscriber).shareDays.getOrDefault(month, 0);
        }
        long[] w = now.weights(month);
        int notPassed = month == now.month ? 30 - now.day : 0;
        return (int) w[w.length - 1] - notPassed * now.capacity;
    }

    private World atEndOfMonth() {
        World w = now.copy();
        w.pass(30 - w.day);
        return w;
    }

    long projectedPart(int subscriber) {
        if (subscriber != -1) {
            member(subscriber);
        }
        return part(atEndOfMonth(), subscriber);
    }

    private static long part(World w, int subscriber) {
        return divide(w.value(w.month), w.weights(w.month))
            [subscriber == -1 ? w.members.size() : subscriber];
    }

    long projectedCredit(int subscriber) {
        member(subscriber);
        World w = atEndOfMonth();
        return w.credit(subscriber, divide(w.value(w.month), w.weights(w.month)));
    }

    long forecastBalance(int subscriber, int ends) {
        member(subscriber);
        argument(ends >= 1 && ends <= 12);
        World w = now.copy();
        for (int i = 0; i < ends; i++) {
            w.pass(30 - w.day);
            w.end();
            w.generation.put(w.month, now.wattHours(now.month).clone());
            for (int j = 0; j < w.members.size(); j++) {
                w.members.get(j).bill = now.members.get(j).bill;
            }
        }
        return w.members.get(subscriber).balance();
    }

    int neededRate(int subscriber, int period, long amount) {
        if (subscriber != -1) {
            member(subscriber);
        }
        index(period >= 0 && period < now.rates.size());
        World w = atEndOfMonth();
        for (int rate = 0; rate <= 200; rate++) {
            w.rates.set(period, rate);
            if (part(w, subscriber) >= amount) {
                return rate;
            }
        }
        throw new NoSuchElementException();
    }

    long issued(int month) {
        index(month >= 0 && month <= now.month);
        return now.value(month);
    }

    long shareDayValue(int month, boolean denominator) {
        index(month >= 0 && month <= now.month);
        BigInteger n = BigInteger.valueOf(now.value(month));
        BigInteger d = BigInteger.valueOf(30L * now.capacity);
        return (denominator ? d : n).divide(n.gcd(d)).longValueExact();
    }

    int neededShares(long amount) {
        argument(amount >= 0);
        for (int shares = 1; shares <= now.capacity; shares++) {
            if (now.value(now.month) * shares / now.capacity >= amount) {
                return shares;
            }
        }
        throw new NoSuchElementException();
    }

    long balance(int subscriber) {
        return member(subscriber).balance();
    }

    long lot(int subscriber, int month) {
        member(subscriber);
        index(month >= 0 && month <= now.month);
        return member(subscriber).lots.getOrDefault(month, 0L);
    }

    long account(int subscriber, int what) {
        Member m = member(subscriber);
        argument(what >= 0 && what <= 5);
        return new long[] {m.debt, m.bill, m.cash, m.paidOut, m.paid, m.expired}[what];
    }

    long expiring(int subscriber) {
        long old = member(subscriber).lots.getOrDefault(now.month - now.expiry, 0L);
        return Math.max(0, old - member(subscriber).bill);
    }

    int monthsCovered(int subscriber, long amount) {
        Member m = member(subscriber).copy();
        argument(amount >= 1);
        int ends = 0;
        for (int month = now.month; m.take(m.lots.keySet(), amount) == 0; month++) {
            m.lots.remove(month - now.expiry);
            ends++;
        }
        return ends;
    }

    long fund() {
        return now.fund;
    }

    long operatorAccount() {
        return now.operator;
    }

    int correct(int month, int period, int wattHours) {
        index(month >= 0 && month < now.month && period >= 0 && period < now.rates.size());
        argument(wattHours >= 0 && wattHours <= 1_000_000_000);
        change();
        now.corrections.computeIfAbsent(month, k -> new TreeMap<>()).put(period, wattHours);
        return (int) now.wattHours(month)[period];
    }

    long trueUp() {
        change();
        long sum = 0;
        for (Map.Entry<Integer, Map<Integer, Integer>> entry : now.corrections.entrySet()) {
            int month = entry.getKey();
            long before = now.value(month);
            entry.getValue().forEach((period, wh) -> now.wattHours(month)[period] = wh);
            long d = now.value(month) - before;
            long[] parts = divide(Math.abs(d), now.weights(month));
            now.book(Arrays.stream(parts).map(part -> d < 0 ? -part : part).toArray());
            sum += d;
        }
        now.corrections.clear();
        return sum;
    }

    long shareFund() {
        long[] weights = now.members.stream().mapToLong(m -> m.shares).toArray();
        state(now.fund > 0 && Arrays.stream(weights).sum() > 0);
        change();
        long amount = now.fund;
        now.fund = 0;
        now.book(divide(amount, weights));
        return amount;
    }

    int describe(int subscriber) {
        Member m = member(subscriber);
        if (m.state == 0) {
            described = subscriber + ":waiting " + waitingPlace(subscriber) + " " + m.minimum;
        } else if (m.state == 1) {
            described = subscriber + ":active " + m.shares + " " + cents(m.balance())
                    + (m.to < 0 ? "" : " ->" + m.to + ":" + m.percent + "%");
        } else {
            described = subscriber + ":left " + cents(m.paidOut);
        }
        return described.length();
    }

    private static String cents(long amount) {
        return String.format("%d.%03d", amount / 1000, amount % 1000);
    }

    int describedByte(int at) {
        index(at >= 0 && at < described.length());
        return described.charAt(at);
    }

    int undo() {
        state(!past.isEmpty());
        now = past.pop();
        return past.size();
    }
}
