import java.math.BigInteger;
import java.util.ArrayDeque;
import java.util.ArrayList;
import java.util.Deque;
import java.util.List;
import java.util.regex.Matcher;
import java.util.regex.Pattern;

/**
 * The document written down a second time, as plainly as can be and without regard to cost, with
 * the same face as DrumPeace. ModelTest compares the two.
 */
final class Model {
    static final int NONE = -1000000, BAD = -1000001, STATE = -1000002, FULL = -1000003;

    /** Thrown by what looks at arguments, so that every call reads as the document's sentence. */
    private static final class Refused extends RuntimeException {
        private static final long serialVersionUID = 1L;
        final int answer;

        Refused(int answer) {
            super(null, null, false, false);
            this.answer = answer;
        }
    }

    private static final class Street {
        final char sort;
        int deep;
        int loot;

        Street(char sort, int deep, int loot) {
            this.sort = sort;
            this.deep = deep;
            this.loot = loot;
        }
    }

    private static final class Place {
        final List<Street> streets = new ArrayList<>();
        final List<Integer> round = new ArrayList<>();
        int reach;
        int thieves;
        int hour;
        int robbed;

        Place twin() {
            Place p = new Place();
            for (Street s : streets) {
                p.streets.add(new Street(s.sort, s.deep, s.loot));
            }
            p.round.addAll(round);
            p.reach = reach;
            p.thieves = thieves;
            p.hour = hour;
            p.robbed = robbed;
            return p;
        }

        boolean heard(int s) {
            return Math.abs(round.get(hour % round.size()) - s) <= reach;
        }

        void pass(boolean dropped) {
            for (int i = 0; i < streets.size(); i++) {
                Street s = streets.get(i);
                boolean hears = heard(i) && !dropped;
                if (s.deep > 0 && !hears) {
                    int taken = s.loot < thieves ? s.loot : thieves;
                    s.loot -= taken;
                    robbed = robbed + taken > 99999 ? 99999 : robbed + taken;
                }
                s.deep = slept(s.sort, s.deep, hears, hour);
            }
            hour++;
        }

        Place in(int d) {
            Place p = twin();
            for (int i = 0; i < d; i++) {
                p.pass(false);
            }
            return p;
        }

        int awake() {
            int bits = 0;
            for (int i = 0; i < streets.size(); i++) {
                if (streets.get(i).deep == 0) {
                    bits += 1 << i;
                }
            }
            return bits;
        }
    }

    static int slept(char sort, int deep, boolean hears, int hour) {
        int then = deep;
        if (sort == 't' || sort == 'p') {
            then = sort == 'p' && !hears ? 0 : deep - 1;
        } else if (hears) {
            then = deep + (sort == 'n' && hour % 4 == 0 ? 2 * 2 : 2);
        } else {
            then = deep - 1;
            if (sort == 'g') {
                then -= 2;
            }
        }
        return then < 0 ? 0 : then > 20 ? 20 : then;
    }

    private final Object[] rows = new Object[8];
    private final StringBuilder tape = new StringBuilder();
    private final Deque<Place> acts = new ArrayDeque<>();
    private final Place[] images = new Place[2];
    private final List<Integer> trace = new ArrayList<>();
    private Place place;
    private int fault;
    private int status;

    private static void bad(boolean is) {
        if (is) {
            throw new Refused(BAD);
        }
    }

    private static void range(int v, int least, int most) {
        bad(v < least || v > most);
    }

    private void needStreet(int s) {
        bad(place == null || s < 0 || s >= place.streets.size());
    }

    private void needTown() {
        if (place == null) {
            throw new Refused(STATE);
        }
    }

    private void find(boolean is, int number) {
        if (is) {
            status = number;
            throw new Refused(-1000010 - number);
        }
    }

    /** Answers a call by its name, as DrumPeace would. */
    int call(String name, int[] a) {
        try {
            return answer(name, a);
        } catch (Refused r) {
            return r.answer;
        }
    }

    private int answer(String name, int[] a) {
        switch (name) {
            case "row": return row(a[0], a[1], a[2]);
            case "set": return set(a[0], a[1], a[2]);
            case "copy": return copy(a[0], a[1], a[2], a[3], a[4]);
            case "drop": return drop(a[0]);
            case "feed": return feed(a[0]);
            case "town": return town();
            case "fault": return fault;
            case "hours": return hours(a[0]);
            case "beat": return beat(a[0], a[1]);
            case "reach": return reach(a[0]);
            case "lull": return lull(a[0], a[1]);
            case "bring": return bring(a[0], a[1]);
            case "undo": return undo();
            case "street": return street(a[0], a[1]);
            case "round": return round(a[0]);
            default: return answerForetold(name, a);
        }
    }

    private int answerForetold(String name, int[] a) {
        switch (name) {
            case "ahead": return ahead(a[0], a[1], a[2]);
            case "later": return later(a[0], a[1]);
            case "wakes": return wakes(a[0]);
            case "alarm": return alarm();
            case "tune": return tune(a[0], a[1], a[2]);
            case "shift": return shift(a[0], a[1]);
            case "cover": return cover(a[0]);
            case "spread": return spread(a[0], a[1]);
            case "skins": return skins(a[0], a[1]);
            case "fits": return fits(a[0], a[1], a[2], a[3], a[4]);
            case "drops": return drops(a[0], a[1], a[2], a[3]);
            case "drawn": return drawn(a[0], a[1], a[2]);
            case "image": return image(a[0]);
            case "restore": return restore(a[0]);
            default: return answerAsked(name, a);
        }
    }

    private int answerAsked(String name, int[] a) {
        switch (name) {
            case "kind": return kind(a[0]);
            case "as": return as(a[0], a[1]);
            case "ask": return ask(a[0], a[1]);
            case "trace": return a[0] >= 0 && a[0] < trace.size() ? trace.get(a[0]) : NONE;
            case "count": return count(a[0]);
            case "status": return status;
            default: throw new IllegalStateException(name);
        }
    }

    // ---- rows

    private int row(int row, int lane, int n) {
        range(row, 0, 7);
        range(lane, 0, 2);
        bad(n > 40);
        find(n < 0, 4);
        rows[row] = lane == 0 ? new byte[n] : lane == 1 ? new short[n] : (Object) new int[n];
        status = 0;
        return n;
    }

    private static int length(Object row) {
        return java.lang.reflect.Array.getLength(row);
    }

    private int set(int row, int i, int v) {
        range(row, 0, 7);
        find(rows[row] == null, 1);
        find(i < 0 || i >= length(rows[row]), 2);
        status = 0;
        if (rows[row] instanceof byte[] b) {
            return b[i] = (byte) v;
        }
        if (rows[row] instanceof short[] s) {
            return s[i] = (short) v;
        }
        return ((int[]) rows[row])[i] = v;
    }

    private int copy(int a, int i, int b, int j, int n) {
        range(a, 0, 7);
        range(b, 0, 7);
        find(rows[a] == null || rows[b] == null, 1);
        find(rows[a].getClass() != rows[b].getClass(), 5);
        try {
            System.arraycopy(rows[a], i, rows[b], j, n);
        } catch (IndexOutOfBoundsException e) {
            find(true, 2);
        }
        status = 0;
        return n;
    }

    private int drop(int row) {
        range(row, 0, 7);
        find(rows[row] == null, 1);
        int had = length(rows[row]);
        rows[row] = null;
        status = 0;
        return had;
    }

    // ---- towns, acts

    private int feed(int letter) {
        range(letter, 0, 255);
        if (tape.length() == 110) {
            return FULL;
        }
        tape.append((char) letter);
        return tape.length();
    }

    /** What may stand next, by what stood before: law, streets, beats as a table of states. */
    private int town() {
        String text = tape.toString();
        tape.setLength(0);
        Place p = new Place();
        Matcher m = Pattern.compile("[a-z]|[0-9]+|[,;]|.", Pattern.DOTALL).matcher(text);
        int state = 0;
        int[] numbers = new int[2];
        char sort = 0;
        while (m.find()) {
            String t = m.group();
            char c = t.charAt(0);
            boolean number = c >= '0' && c <= '9';
            int value = number && t.length() <= 2 ? Integer.parseInt(t) : -1;
            int wrong = 0;
            switch (state) {
                case 0: // the law's letter
                    wrong = c == 'd' ? 0 : 1;
                    break;
                case 1: case 3: case 6: case 8: case 11: // a number
                    int most = state == 1 ? 3 : state == 3 ? 9 : state == 6 ? 20 : state == 8 ? 60
                            : p.streets.size() - 1;
                    wrong = value < 0 ? 1 : value > most ? 2 : 0;
                    numbers[state == 3 || state == 8 ? 1 : 0] = value;
                    break;
                case 2: case 7:
                    wrong = c == ',' ? 0 : 1;
                    break;
                case 4: case 9: case 12:
                    wrong = c == ';' ? 0 : 1;
                    break;
                default: // 5: a street or a beat
                    boolean street = "angtp".indexOf(c) >= 0 && p.round.isEmpty();
                    boolean beat = c == 'r' && !p.streets.isEmpty();
                    sort = c;
                    wrong = street && p.streets.size() == 8 || beat && p.round.size() == 8 ? 3
                            : street || beat ? 0 : 1;
            }
            if (wrong != 0) {
                fault = wrong;
                return -1000100 - m.start();
            }
            if (state == 4) {
                p.reach = numbers[0];
                p.thieves = numbers[1];
            } else if (state == 9) {
                p.streets.add(new Street(sort, numbers[0], numbers[1]));
            } else if (state == 12) {
                p.round.add(numbers[0]);
            }
            state = state == 9 || state == 12 ? 5 : state == 5 && sort == 'r' ? 11 : state + 1;
        }
        if (state != 5 || p.round.isEmpty()) {
            fault = 1;
            return -1000100 - text.length();
        }
        place = p;
        acts.clear();
        return p.streets.size();
    }

    private void act() {
        acts.addLast(place.twin());
        if (acts.size() > 24) {
            acts.removeFirst();
        }
    }

    private int hours(int n) {
        needTown();
        range(n, 1, 24);
        if (place.hour + n > 9999) {
            return FULL;
        }
        for (int i = 0; i < n; i++) {
            act();
            place.pass(false);
        }
        return place.awake();
    }

    private void needBeat(int b) {
        bad(place == null || b < 0 || b >= place.round.size());
    }

    private int beat(int b, int s) {
        needBeat(b);
        needStreet(s);
        if (place.round.get(b) == s) {
            return STATE;
        }
        act();
        return place.round.set(b, s);
    }

    private int reach(int v) {
        needTown();
        range(v, 0, 3);
        act();
        int was = place.reach;
        place.reach = v;
        return was;
    }

    private int lull(int s, int n) {
        needStreet(s);
        range(n, 1, 20);
        act();
        Street it = place.streets.get(s);
        return it.deep = it.deep + n > 20 ? 20 : it.deep + n;
    }

    private int bring(int s, int n) {
        needStreet(s);
        range(n, 1, 60);
        act();
        Street it = place.streets.get(s);
        return it.loot = it.loot + n > 60 ? 60 : it.loot + n;
    }

    private int undo() {
        if (acts.isEmpty()) {
            return STATE;
        }
        place = acts.removeLast();
        return acts.size();
    }

    private int street(int s, int what) {
        needStreet(s);
        range(what, 0, 4);
        Street now = place.streets.get(s);
        Street then = place.in(1).streets.get(s);
        int[] answers = {now.deep, now.loot, place.heard(s) ? 1 : 0, then.deep, now.loot - then.loot};
        return answers[what];
    }

    private int round(int b) {
        needBeat(b);
        return place.round.get(b);
    }

    // ---- foretold

    private int ahead(int s, int d, int what) {
        needStreet(s);
        range(d, 0, 60);
        range(what, 0, 1);
        Street then = place.in(d).streets.get(s);
        return what == 0 ? then.deep : then.loot;
    }

    private int later(int d, int what) {
        needTown();
        range(d, 0, 60);
        range(what, 0, 1);
        Place then = place.in(d);
        return what == 0 ? then.awake() : then.robbed;
    }

    private int wakes(int s) {
        needStreet(s);
        for (int d = 0; d <= 60; d++) {
            if (place.in(d).streets.get(s).deep == 0) {
                return d;
            }
        }
        return NONE;
    }

    private int alarm() {
        needTown();
        for (int d = 0; d <= 60; d++) {
            if (Integer.bitCount(place.in(d).awake()) == place.streets.size()) {
                return d;
            }
        }
        return NONE;
    }

    private int tune(int k, int n, int j) {
        needTown();
        range(k, 1, 4);
        range(n, 1, 12);
        bad(j < -1);
        int[] best = null;
        List<Integer> bestRound = null;
        Deque<List<Integer>> open = new ArrayDeque<>();
        open.push(new ArrayList<>());
        while (!open.isEmpty()) {
            List<Integer> r = open.pop();
            if (r.size() < k) {
                for (int s = place.streets.size() - 1; s >= 0; s--) {
                    List<Integer> longer = new ArrayList<>(r);
                    longer.add(s);
                    open.push(longer);
                }
                continue;
            }
            Place p = place.twin();
            p.round.clear();
            p.round.addAll(r);
            p = p.in(n);
            int[] is = {p.robbed - place.robbed, -(p.streets.size() - Integer.bitCount(p.awake()))};
            if (best == null || is[0] < best[0] || is[0] == best[0] && is[1] < best[1]) {
                best = is;
                bestRound = r;
            }
        }
        return j == -1 ? best[0] : j < k ? bestRound.get(j) : NONE;
    }

    private int shift(int n, int what) {
        needTown();
        range(n, 1, 30);
        range(what, 0, 1);
        int least = place.in(n).robbed;
        int which = NONE;
        for (int b = 0; b < place.round.size(); b++) {
            for (int s = 0; s < place.streets.size(); s++) {
                Place p = place.twin();
                p.round.set(b, s);
                int robbed = p.in(n).robbed;
                if (place.round.get(b) != s && robbed < least) {
                    least = robbed;
                    which = 10 * b + s;
                }
            }
        }
        return what == 0 || which == NONE ? which : least - place.robbed;
    }

    private int cover(int what) {
        needTown();
        range(what, 0, 1);
        int size = place.streets.size();
        for (int many = 1; many <= size; many++) {
            for (int set = 1; set < 1 << size; set++) {
                if (Integer.bitCount(set) == many && covers(set, size)) {
                    return what == 0 ? many : set;
                }
            }
        }
        throw new IllegalStateException();
    }

    private boolean covers(int set, int size) {
        for (int s = 0; s < size; s++) {
            int near = 0;
            for (int from = s - place.reach; from <= s + place.reach; from++) {
                near += from >= 0 && (set >> from & 1) != 0 ? 1 : 0;
            }
            if (near == 0) {
                return false;
            }
        }
        return true;
    }

    private int spread(int s, int n) {
        needStreet(s);
        range(n, 1, 30);
        for (int v = 0; v <= 3; v++) {
            Place p = place.twin();
            p.reach = v;
            if (p.in(n).streets.get(s).deep > 0) {
                return v;
            }
        }
        return NONE;
    }

    private int skins(int s, int n) {
        needStreet(s);
        range(n, 0, 999);
        int all = 0;
        for (Street x : place.streets) {
            all += x.loot;
        }
        if (all == 0) {
            return 0;
        }
        int[] share = new int[place.streets.size()];
        int over = n;
        for (int i = 0; i < share.length; i++) {
            share[i] = n * place.streets.get(i).loot / all;
            over -= share[i];
        }
        for (int i = 0; i < share.length && over > 0; i++) {
            if (place.streets.get(i).loot > 0) {
                share[i]++;
                over--;
            }
        }
        return share[s];
    }

    private int fits(int s, int row, int i, int n, int what) {
        needStreet(s);
        range(row, 0, 7);
        range(n, 1, 12);
        range(what, 0, 3);
        find(rows[row] == null, 1);
        find(i < 0 || (long) i + n > length(rows[row]), 2);
        status = 0;
        int bits = 0;
        for (int guess = 0; guess <= 20; guess++) {
            Place p = supposed(s, what, guess);
            boolean fits = p != null;
            for (int h = 1; fits && h <= n; h++) {
                p.pass(false);
                fits = p.streets.get(s).deep == java.lang.reflect.Array.getInt(rows[row], i + h - 1);
            }
            bits |= fits ? 1 << guess : 0;
        }
        return bits;
    }

    private Place supposed(int s, int what, int guess) {
        Place p = place.twin();
        Street is = p.streets.get(s);
        if (what == 0 && guess >= 1 && guess <= 5) {
            p.streets.set(s, new Street(".angtp".charAt(guess), is.deep, is.loot));
        } else if (what == 1) {
            is.deep = guess;
        } else if (what == 2 && guess <= 3) {
            p.reach = guess;
        } else if (what == 3 && guess < p.streets.size()) {
            p.round.set(p.hour % p.round.size(), guess);
        } else {
            return null;
        }
        return p;
    }

    private int drops(int s, int n, int c, int what) {
        needStreet(s);
        range(n, 0, 8);
        range(c, 0, 10);
        range(what, 0, 1);
        BigInteger above = BigInteger.ZERO;
        for (int fall = 0; fall < 1 << n; fall++) {
            Place p = place.twin();
            for (int h = 0; h < n; h++) {
                p.pass((fall >> h & 1) == 1);
            }
            if (p.streets.get(s).deep == 0) {
                int fell = Integer.bitCount(fall);
                above = above.add(BigInteger.valueOf(c).pow(fell).multiply(BigInteger.valueOf(10 - c).pow(n - fell)));
            }
        }
        BigInteger below = BigInteger.TEN.pow(n);
        BigInteger both = above.gcd(below);
        return (what == 0 ? above : below).divide(both).intValueExact();
    }

    private int drawn(int n, int seed, int what) {
        needTown();
        range(n, 0, 60);
        range(seed, 1, 999999);
        range(what, 0, 1);
        Place p = place.twin();
        BigInteger x = BigInteger.valueOf(seed);
        for (int h = 0; h < n; h++) {
            x = x.multiply(BigInteger.valueOf(16807)).mod(BigInteger.valueOf(2147483647));
            int b = x.mod(BigInteger.valueOf(p.round.size())).intValue();
            int s = x.mod(BigInteger.valueOf(p.streets.size())).intValue();
            if (x.intValueExact() % 3 == 0) {
                p.round.set(b, s);
            } else if (x.intValueExact() % 5 == 0) {
                p.streets.get(s).loot = 60;
            }
            p.pass(false);
        }
        return what == 0 ? p.robbed - place.robbed : Integer.bitCount(p.awake());
    }

    private int image(int k) {
        range(k, 0, 1);
        needTown();
        images[k] = place.twin();
        return 1;
    }

    private int restore(int k) {
        range(k, 0, 1);
        if (images[k] == null) {
            return STATE;
        }
        place = images[k].twin();
        acts.clear();
        return 1;
    }

    // ---- asked

    private int kind(int s) {
        needStreet(s);
        return ".angtp".indexOf(place.streets.get(s).sort);
    }

    private int as(int s, int kind) {
        needStreet(s);
        range(kind, 0, 5);
        int[] above = {-1, 0, 1, 1, 0, 4};
        int k = kind(s);
        while (k != kind && k != -1) {
            k = above[k];
        }
        find(k == -1, 3);
        status = 0;
        return s;
    }

    private int ask(int s, int what) {
        needStreet(s);
        range(what, 0, 1);
        trace.clear();
        return what == 0 ? kindOf(s).size() : kindOf(s).mark();
    }

    private AnyStreet kindOf(int s) {
        Street it = place.streets.get(s);
        switch (it.sort) {
            case 'a': return new Alley(this, s, it);
            case 'n': return new Nursery(this, s, it);
            case 'g': return new Garrison(this, s, it);
            case 't': return new Tannery(this, s, it);
            default: return new Pump(this, s, it);
        }
    }

    private int begin(int body) {
        if (trace.size() < 16) {
            trace.add(body);
        }
        return 0;
    }

    private static class AnyStreet {
        final Model model;
        final int number;
        final Street it;

        AnyStreet(Model model, int number, Street it) {
            this.model = model;
            this.number = number;
            this.it = it;
        }

        int size() {
            return model.begin(10) + it.loot;
        }

        int mark() {
            return model.begin(20) + number;
        }
    }

    private static class Alley extends AnyStreet {
        Alley(Model model, int number, Street it) {
            super(model, number, it);
        }

        @Override
        int size() {
            return model.begin(11) + super.size() + mark();
        }

        @Override
        int mark() {
            return model.begin(21) + super.mark() + it.deep;
        }
    }

    private static final class Nursery extends Alley {
        Nursery(Model model, int number, Street it) {
            super(model, number, it);
        }

        @Override
        int size() {
            return model.begin(12) - super.size();
        }

        @Override
        int mark() {
            return model.begin(24) + 2 * super.mark();
        }
    }

    private static final class Garrison extends Alley {
        Garrison(Model model, int number, Street it) {
            super(model, number, it);
        }

        @Override
        int mark() {
            return model.begin(22) + super.mark() - 1000;
        }
    }

    private static class Tannery extends AnyStreet {
        Tannery(Model model, int number, Street it) {
            super(model, number, it);
        }

        @Override
        int size() {
            return model.begin(13) + super.size() - 100;
        }

        @Override
        int mark() {
            return model.begin(23) + super.mark() - size();
        }
    }

    private static final class Pump extends Tannery {
        Pump(Model model, int number, Street it) {
            super(model, number, it);
        }

        @Override
        int size() {
            return model.begin(14) + 2 * super.size();
        }
    }

    private int count(int what) {
        range(what, 0, 9);
        int there = 0;
        for (Object r : rows) {
            there += r == null ? 0 : 1;
        }
        Place p = place == null ? new Place() : place;
        int[] answers = {there, p.streets.size(), p.round.size(), p.hour, p.reach, p.thieves, p.robbed,
            p.awake(), acts.size(), tape.length()};
        return answers[what];
    }
}
