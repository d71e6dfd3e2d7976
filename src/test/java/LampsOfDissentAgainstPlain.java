import java.math.BigInteger;
import java.util.ArrayDeque;
import java.util.ArrayList;
import java.util.Deque;
import java.util.List;
import java.util.Random;
import java.util.regex.Matcher;
import java.util.regex.Pattern;

/** Runs of calls by chance, the class against a second one told from the document in another, slower way. */
public final class LampsOfDissentAgainstPlain {
    private static final int BAD = -1, NO = -2, FULL = -3, NONE = -4;
    private static final int RUNS = 300, CALLS = 512;

    /** Cities whose FIRST or SETTLES lies just inside or just outside of the hours looked at. */
    private static final String[] EDGES = {
        "h1;p3,18,0,0;p1,24,7,0;p3,24,9,0;p1,14,7,0;p1,4,0,0;p2,20,7,0;w0,2;s25;s4;s3;",
        "h1;p3,28,9,0;p1,20,7,0;p2,22,0,0;p0,19,5,0;p0,9,5,0;p3,9,3,0;w0,8;s2;s16;s1;",
        "h1;p2,16,8,0;p0,14,9,0;s2;s0;s16;s0;s2;s0;s0;",
        "h1;p0,18,9,0;p3,12,4,0;s0;s17;s27;s0;s8;s0;s0;"};

    public static void main(String[] args) {
        int wrong = 0;
        for (int run = 0; run < RUNS && wrong == 0; run++) {
            wrong += compare(run);
        }
        for (String text : EDGES) {
            wrong += compareEdge(text);
        }
        System.out.println(wrong == 0 ? "all answers are alike" : "a run is not alike");
        if (wrong != 0) {
            System.exit(1);
        }
    }

    private static int compareEdge(String text) {
        LampsOfDissent x = new LampsOfDissent();
        Plain plain = new Plain();
        int[] calls = {3, 14, 18, 6, 14, 18, 6, 14, 18};
        for (char letter : text.toCharArray()) {
            x.write(letter);
            plain.write(letter);
        }
        for (int which : calls) {
            if (answer(x, which, 1, 0, 0) != plain.answer(which, 1, 0, 0)) {
                System.out.println(text + " is not alike on call " + which);
                return 1;
            }
        }
        return 0;
    }

    private static int compare(int run) {
        Random chance = new Random(run);
        LampsOfDissent x = new LampsOfDissent();
        Plain plain = new Plain();
        StringBuilder told = new StringBuilder();
        String text = run % 10 == 0 ? "" : someText(chance);
        int calls = 0;
        for (char letter : text.toCharArray()) {
            calls++;
            if (x.write(letter) != plain.write(letter)) {
                System.out.println("run " + run + ": write");
                return 1;
            }
        }
        for (boolean first = true; calls < CALLS; calls++, first = false) {
            int which = first ? 3 : chance.nextInt(30);
            int a = someNumber(chance), b = someNumber(chance), c = chance.nextInt(20) == 0 ? someNumber(chance) : chance.nextInt(2);
            if (which == 1 && chance.nextInt(8) != 0 || which == 3 && !first && chance.nextInt(8) != 0) {
                which = 6;
            }
            int got = answer(x, which, a, b, c);
            int want = plain.answer(which, a, b, c);
            told.append(' ').append(which).append('(').append(a).append(',').append(b).append(',').append(c).append(")=").append(want);
            if (got != want) {
                System.out.println("run " + run + " " + text + told + " but answered " + got);
                return 1;
            }
        }
        return 0;
    }

    private static int someNumber(Random chance) {
        int wide = chance.nextInt(12);
        if (wide == 0) {
            return chance.nextInt();
        }
        return wide == 1 ? chance.nextInt(130) - 3 : chance.nextInt(8) - (wide == 2 ? 2 : 0);
    }

    private static String someText(Random chance) {
        StringBuilder text = new StringBuilder();
        int houses = chance.nextInt(8) == 0 ? 4 : 1 + chance.nextInt(5);
        if (houses != 4 || chance.nextBoolean()) {
            text.append('h').append(houses).append(';');
        }
        int high = chance.nextInt(3) == 0 ? 3 : 10;
        for (int k = 1 + chance.nextInt(8); k > 0; k--) {
            text.append('p').append(chance.nextInt(4)).append(',').append(chance.nextInt(32)).append(',')
                .append(chance.nextInt(high)).append(',').append(chance.nextInt(houses)).append(';');
        }
        for (int k = chance.nextInt(6); k > 0; k--) {
            text.append('w').append(chance.nextInt(houses)).append(',').append(1 + chance.nextInt(k * 6)).append(';');
        }
        for (int k = chance.nextInt(6); k > 0; k--) {
            text.append('s').append(chance.nextInt(32)).append(';');
        }
        if (chance.nextInt(4) == 0) {
            text.setCharAt(chance.nextInt(text.length()), "phws0123456789,; x".charAt(chance.nextInt(18)));
        }
        return text.length() > 200 ? text.substring(0, 200) : text.toString();
    }

    private static int answer(LampsOfDissent x, int which, int a, int b, int c) {
        switch (which) {
            case 0: return x.write(a);
            case 1: return x.wipe();
            case 2: return x.fault();
            case 3: return x.lay();
            case 4: return x.person(a, b);
            case 5: return x.work(a, b);
            case 6: return x.pass(a);
            case 7: return x.move(a, b);
            case 8: return x.alter(a, b);
            case 9: return x.ration(a);
            case 10: return x.undo();
            case 11: return x.light(a - 1, b);
            case 12: return x.lit(a);
            case 13: return x.reach(a);
            case 14: return x.first();
            case 15: return x.homes(a - 2);
            case 16: return x.apart(a, b, c);
            case 17: return x.talk(a, b - 1);
            case 18: return x.settles();
            case 19: return x.seen(a, b);
            case 20: return x.forget();
            case 21: return x.may(a, c);
            case 22: return x.smokes();
            case 23: return x.married(a);
            case 24: return x.falseBy(a, b, c);
            case 25: return x.winter(a, b, c);
            case 26: return x.keep();
            case 27: return x.back();
            case 28: return x.count(a);
            default: return x.light(a, c);
        }
    }

    /** One who lives there: a copy is made for each what-if. */
    private static final class One {
        final int number;
        int kind, temper, home;
        final boolean[] opinion = new boolean[5];

        One(int number) {
            this.number = number;
        }

        One copy() {
            One one = new One(number);
            one.kind = kind;
            one.temper = temper;
            one.home = home;
            System.arraycopy(opinion, 0, one.opinion, 0, 5);
            return one;
        }

        int opinions() {
            int bits = 0;
            for (int k = 0; k < 5; k++) {
                bits += opinion[k] ? 1 << k : 0;
            }
            return bits;
        }

        void hold(int bits) {
            for (int k = 0; k < 5; k++) {
                opinion[k] = (bits & 1 << k) != 0;
            }
        }

        boolean silent() {
            return kind == 1 && temper <= 2;
        }
    }

    private static final class World {
        final List<One> all = new ArrayList<>();
        final boolean[] rationed = new boolean[5];
        int hour;

        World copy() {
            World world = new World();
            for (One one : all) {
                world.all.add(one.copy());
            }
            System.arraycopy(rationed, 0, world.rationed, 0, 5);
            world.hour = hour;
            return world;
        }

        int odds(One a, One b, int talked) {
            int many = 0;
            for (int k = 0; k < 5; k++) {
                boolean open = (talked & 1 << k) != 0 && !a.silent() && !b.silent();
                many += open && a.home == b.home && a.opinion[k] != b.opinion[k] ? 1 : 0;
            }
            return a == b ? 0 : many;
        }

        int light(int house, int talked) {
            int sum = 0;
            for (One a : all) {
                for (One b : all) {
                    if (a.number < b.number && a.home == house) {
                        int part = odds(a, b, talked) * (1 + (a.temper + b.temper) / 4);
                        sum += a.kind == 2 || b.kind == 2 ? part / 2 : part;
                    }
                }
            }
            return sum > 60 ? 60 : sum;
        }

        boolean smoke(int house, int talked) {
            for (One a : all) {
                for (One b : all) {
                    if (a.home == house && a.kind == 2 && odds(a, b, talked) > 0) {
                        return true;
                    }
                }
            }
            return false;
        }

        void hourGoes(int talked) {
            List<One[]> twos = new ArrayList<>();
            List<Boolean> quarrels = new ArrayList<>();
            for (One a : all) {
                for (One b : all) {
                    if (a.number < b.number && a.home == b.home) {
                        twos.add(new One[] {a, b});
                        quarrels.add(odds(a, b, talked) > 0);
                    }
                }
            }
            for (int k = 0; k < twos.size(); k++) {
                for (One one : twos.get(k)) {
                    if (quarrels.get(k)) {
                        one.temper = one.temper == 9 ? 9 : one.temper + 1;
                    } else {
                        one.temper = one.temper == 0 ? 0 : one.temper - 1;
                    }
                }
            }
            for (One[] two : twos) {
                for (int k = 0; k < 5 && two[0].temper + two[1].temper == 0 && two[0].kind != 3; k++) {
                    if (two[0].opinion[k] != two[1].opinion[k]) {
                        two[0].opinion[k] = two[1].opinion[k];
                        break;
                    }
                }
            }
            hour++;
        }
    }

    private static final class Plain {
        private String text = "";
        private World world;
        private int houses;
        private List<int[]> works;
        private List<Integer> told;
        private final Deque<World> past = new ArrayDeque<>();
        private final Deque<World> kept = new ArrayDeque<>();
        private final List<int[]> sights = new ArrayList<>();

        Plain() {
            text = "h3;p0,5,4,0;p0,10,3,0;p3,7,6,1;p1,24,2,1;p2,7,5,2;p0,23,1,2;w0,6;w1,4;w2,9;s31;s7;";
            lay();
            text = "";
        }

        int answer(int which, int a, int b, int c) {
            switch (which) {
                case 0: return write(a);
                case 1: { int was = text.length(); text = ""; return was; }
                case 2: return parse(new World(), new int[1], new ArrayList<>(), new ArrayList<>());
                case 3: return lay();
                case 4: return person(a, b);
                case 5: return a < 0 || a >= works.size() || b < 0 || b > 2 ? BAD : b < 2 ? works.get(a)[b] : lit(0) >> a & 1;
                case 6: return pass(a);
                case 7: return move(a, b);
                case 8: return alter(a, b);
                case 9: return ration(a);
                case 10: return undo();
                case 11: return light(a - 1, b);
                case 12: return lit(a);
                case 13: return reach(a);
                case 14: return first();
                case 15: return homes(a - 2);
                case 16: return apart(a, b, c);
                case 17: return talk(a, b - 1);
                case 18: return settles();
                case 19: return seen(a, b);
                case 20: { int were = sights.size(); sights.clear(); return were; }
                case 21: return may(a, c);
                case 22: return smokes();
                case 23: return married(a);
                case 24: return falseBy(a, b, c);
                case 25: return winter(a, b, c);
                case 26: return keep();
                case 27: return back();
                case 28: return count(a);
                default: return light(a, c);
            }
        }

        int write(int letter) {
            if (letter < 32 || letter > 126) {
                return BAD;
            }
            if (text.length() == 200) {
                return FULL;
            }
            text += (char) letter;
            return text.length();
        }

        private static final Pattern ITEM = Pattern.compile("([phws])(\\d\\d?(?:,\\d\\d?)*);");

        private int parse(World into, int[] many, List<int[]> intoWorks, List<Integer> intoTold) {
            many[0] = 4;
            Matcher item = ITEM.matcher(text);
            int at = 0;
            while (at < text.length()) {
                item.region(at, text.length());
                if (!item.lookingAt()) {
                    return at;
                }
                String[] parts = item.group(2).split(",");
                int[] n = new int[parts.length];
                for (int k = 0; k < n.length; k++) {
                    n[k] = Integer.parseInt(parts[k]);
                }
                if (!take(item.group(1).charAt(0), n, into, many, intoWorks, intoTold)) {
                    return at;
                }
                at = item.end();
            }
            return NONE;
        }

        private static boolean take(char letter, int[] n, World into, int[] many, List<int[]> intoWorks, List<Integer> intoTold) {
            if (n.length != (letter == 'p' ? 4 : letter == 'w' ? 2 : 1)) {
                return false;
            }
            if (letter == 'h') {
                many[0] = n[0];
                return into.all.isEmpty() && intoWorks.isEmpty() && intoTold.isEmpty() && n[0] >= 1 && n[0] <= 5;
            }
            if (letter == 'w') {
                intoWorks.add(n);
                return intoWorks.size() <= 5 && n[0] < many[0] && n[1] >= 1 && n[1] <= 30;
            }
            if (letter == 's') {
                intoTold.add(n[0]);
                return intoTold.size() <= 8 && n[0] <= 31;
            }
            One one = new One(into.all.size());
            one.kind = n[0];
            one.hold(n[1]);
            one.temper = n[2];
            one.home = n[3];
            into.all.add(one);
            return into.all.size() <= 8 && n[0] <= 3 && n[1] <= 31 && n[2] <= 9 && n[3] <= 4;
        }

        private int lay() {
            World laid = new World();
            int[] many = new int[1];
            List<int[]> laidWorks = new ArrayList<>();
            List<Integer> laidTold = new ArrayList<>();
            if (parse(laid, many, laidWorks, laidTold) != NONE || laid.all.isEmpty()) {
                return NO;
            }
            for (One one : laid.all) {
                if (one.home >= many[0]) {
                    return NO;
                }
            }
            world = laid;
            houses = many[0];
            works = laidWorks;
            told = laidTold;
            past.clear();
            kept.clear();
            sights.clear();
            return laid.all.size();
        }

        private boolean noOne(int i) {
            return i < 0 || i >= world.all.size();
        }

        private boolean noHouse(int h) {
            return h < 0 || h >= houses;
        }

        private int talked(World w) {
            int bits = told.isEmpty() ? 31 : told.get(w.hour % told.size());
            for (int k = 0; k < 5; k++) {
                bits = w.rationed[k] ? bits & ~(1 << k) : bits;
            }
            return bits;
        }

        private World ahead(int d) {
            World w = world.copy();
            for (int k = 0; k < d; k++) {
                w.hourGoes(talked(w));
            }
            return w;
        }

        private int sum(World w, int talked) {
            int sum = 0;
            for (int h = 0; h < houses; h++) {
                sum += w.light(h, talked);
            }
            return sum;
        }

        private int litOf(World w) {
            int bits = 0;
            for (int k = 0; k < works.size(); k++) {
                bits |= w.light(works.get(k)[0], talked(w)) >= works.get(k)[1] ? 1 << k : 0;
            }
            return bits;
        }

        private void note() {
            past.push(world.copy());
            if (past.size() > 8) {
                past.removeLast();
            }
        }

        private int person(int i, int what) {
            if (noOne(i) || what < 0 || what > 4) {
                return BAD;
            }
            One one = world.all.get(i);
            int bits = 0;
            for (One other : world.all) {
                bits |= world.odds(one, other, talked(world)) > 0 ? 1 << other.number : 0;
            }
            return new int[] {one.kind, one.opinions(), one.temper, one.home, bits}[what];
        }

        private int pass(int n) {
            if (n < 1 || n > 30) {
                return BAD;
            }
            if (world.hour > 999 - n) {
                return NO;
            }
            note();
            world = ahead(n);
            return world.hour;
        }

        private int move(int i, int h) {
            if (noOne(i) || noHouse(h)) {
                return BAD;
            }
            note();
            int was = world.all.get(i).home;
            world.all.get(i).home = h;
            return was;
        }

        private int alter(int i, int s) {
            if (noOne(i) || s < 0 || s > 4) {
                return BAD;
            }
            note();
            One one = world.all.get(i);
            one.opinion[s] = !one.opinion[s];
            return one.opinion[s] ? 1 : 0;
        }

        private int ration(int s) {
            if (s < 0 || s > 4) {
                return BAD;
            }
            note();
            world.rationed[s] = !world.rationed[s];
            return world.rationed[s] ? 1 : 0;
        }

        private int undo() {
            if (past.isEmpty()) {
                return NO;
            }
            world = past.pop();
            return past.size();
        }

        private int light(int h, int d) {
            if (h < -1 || h >= houses || d < 0 || d > 30) {
                return BAD;
            }
            World w = ahead(d);
            return h < 0 ? sum(w, talked(w)) : w.light(h, talked(w));
        }

        private int lit(int d) {
            return d < 0 || d > 30 ? BAD : litOf(ahead(d));
        }

        private int reach(int h) {
            if (noHouse(h)) {
                return BAD;
            }
            int bits = world.light(h, talked(world)) == 0 ? 1 << h : 0;
            for (int round = 0; round < 5; round++) {
                for (int k = 0; k < houses; k++) {
                    boolean next = (bits >> k + 1 & 1) == 1 || k > 0 && (bits >> k - 1 & 1) == 1;
                    bits |= next && world.light(k, talked(world)) == 0 ? 1 << k : 0;
                }
            }
            return bits;
        }

        private int first() {
            for (int d = 0; d <= 30; d++) {
                if (Integer.bitCount(litOf(ahead(d))) < works.size()) {
                    return d;
                }
            }
            return NONE;
        }

        private int homes(int i) {
            if (i < -2 || i >= world.all.size()) {
                return BAD;
            }
            int people = world.all.size();
            int[] way = new int[people];
            World w = world.copy();
            int bestLit = -1;
            int bestMoved = 0;
            int[] best = null;
            boolean more = true;
            while (more) {
                int moved = 0;
                for (int k = 0; k < people; k++) {
                    w.all.get(k).home = way[k];
                    moved += way[k] == world.all.get(k).home ? 0 : 1;
                }
                if (moved <= 4) {
                    int lit = Integer.bitCount(litOf(w));
                    if (lit > bestLit || lit == bestLit && moved < bestMoved) {
                        bestLit = lit;
                        bestMoved = moved;
                        best = way.clone();
                    }
                }
                int at = people - 1;
                while (at >= 0 && way[at] == houses - 1) {
                    way[at--] = 0;
                }
                more = at >= 0;
                if (more) {
                    way[at]++;
                }
            }
            return i == -1 ? bestLit : i == -2 ? bestMoved : best[i];
        }

        private int apart(int i, int j, int what) {
            if (noOne(i) || noOne(j) || i == j || what < 0 || what > 1) {
                return BAD;
            }
            if (world.all.get(i).home != world.all.get(j).home || houses == 1) {
                return NO;
            }
            int best = -1;
            int least = 0;
            for (int code = 0; code < 64; code++) {
                int who = code / 8;
                int h = code % 8;
                if ((who == i || who == j) && h < houses && h != world.all.get(who).home) {
                    World w = world.copy();
                    w.all.get(who).home = h;
                    int lost = sum(world, talked(world)) - sum(w, talked(w));
                    if (best < 0 || lost < least) {
                        best = code;
                        least = lost;
                    }
                }
            }
            return what == 0 ? 100 + least : best;
        }

        private int talk(int n, int k) {
            if (n < 1 || n > 4 || k < -1 || k >= n) {
                return BAD;
            }
            int rows = (int) Math.pow(6, n);
            int best = 0;
            int most = -1;
            for (int row = 0; row < rows; row++) {
                World w = world.copy();
                int had = 0;
                for (int at = 0; at < n; at++) {
                    int choice = row / (int) Math.pow(6, n - 1 - at) % 6;
                    int talked = choice == 0 || w.rationed[choice - 1] ? 0 : 1 << choice - 1;
                    had += sum(w, talked);
                    w.hourGoes(talked);
                }
                if (had > most) {
                    most = had;
                    best = row;
                }
            }
            int choice = k < 0 ? 0 : best / (int) Math.pow(6, n - 1 - k) % 6;
            return k < 0 ? most : choice == 0 ? NONE : choice - 1;
        }

        private int settles() {
            for (int d = 1; d <= 60; d++) {
                World w = ahead(d);
                int odds = 0;
                for (One a : w.all) {
                    for (One b : w.all) {
                        odds += w.odds(a, b, 31);
                    }
                }
                if (odds == 0) {
                    return d;
                }
            }
            return NONE;
        }

        private int seen(int h, int v) {
            if (noHouse(h) || v < 0 || v > 60) {
                return BAD;
            }
            if (sights.size() == 8) {
                return FULL;
            }
            sights.add(new int[] {h, v});
            return sights.size();
        }

        private int may(int i, int what) {
            if (noOne(i) || what < 0 || what > 1) {
                return BAD;
            }
            List<Integer> fit = new ArrayList<>();
            for (int bits = 0; bits < 32; bits++) {
                World w = world.copy();
                w.all.get(i).hold(bits);
                if (sights.stream().allMatch(s -> w.light(s[0], talked(w)) == s[1])) {
                    fit.add(bits);
                }
            }
            return what == 0 ? fit.size() : fit.isEmpty() ? NONE : fit.get(0);
        }

        private int smokes() {
            int bits = 0;
            for (int h = 0; h < houses; h++) {
                bits |= world.smoke(h, talked(world)) ? 1 << h : 0;
            }
            return bits;
        }

        private int married(int i) {
            if (noOne(i)) {
                return BAD;
            }
            int[] whom = new int[8];
            java.util.Arrays.fill(whom, NONE);
            for (int unlike = 5; unlike > 0; unlike--) {
                for (One a : world.all) {
                    for (One b : world.all) {
                        boolean free = whom[a.number] == NONE && whom[b.number] == NONE && a.number < b.number;
                        if (free && Integer.bitCount(a.opinions() ^ b.opinions()) == unlike) {
                            whom[a.number] = b.number;
                            whom[b.number] = a.number;
                        }
                    }
                }
            }
            return whom[i];
        }

        private int falseBy(int h, int x, int part) {
            if (noHouse(h) || x < 0 || x > 10 || part < 0 || part > 1) {
                return BAD;
            }
            int people = world.all.size();
            BigInteger above = BigInteger.ZERO;
            for (int liars = 0; liars < 1 << people; liars++) {
                World w = world.copy();
                BigInteger weight = BigInteger.ONE;
                for (One one : w.all) {
                    boolean lies = (liars >> one.number & 1) == 1;
                    one.kind = lies ? 2 : one.kind == 2 ? 0 : one.kind;
                    weight = weight.multiply(BigInteger.valueOf(lies ? x : 10 - x));
                }
                above = w.smoke(h, talked(w)) ? above.add(weight) : above;
            }
            BigInteger below = BigInteger.TEN.pow(people);
            BigInteger shared = above.gcd(below);
            return (part == 0 ? above : below).divide(shared).intValueExact();
        }

        private int winter(int z, int n, int what) {
            if (z < 0 || z > 9999 || n < 1 || n > 40 || what < 0 || what > 1) {
                return BAD;
            }
            World w = world.copy();
            int lit = 0;
            int dark = 0;
            for (int k = 0; k < n; k++) {
                BigInteger x = BigInteger.valueOf(7919L * z + 6151L * k + 1);
                int draw = x.multiply(x).mod(BigInteger.valueOf(65521)).intValueExact() >> 1;
                if ((draw >> 6) % 3 == 0) {
                    One one = w.all.get(draw % w.all.size());
                    int s = (draw >> 3) % 5;
                    one.opinion[s] = !one.opinion[s];
                }
                lit += Integer.bitCount(litOf(w));
                for (int h = 0; h < houses; h++) {
                    dark += w.light(h, talked(w)) == 0 ? 1 : 0;
                }
                w.hourGoes(talked(w));
            }
            return what == 0 ? lit : dark;
        }

        private int keep() {
            if (kept.size() == 2) {
                return FULL;
            }
            kept.push(world.copy());
            return kept.size();
        }

        private int back() {
            if (kept.isEmpty()) {
                return NO;
            }
            world = kept.pop();
            past.clear();
            return kept.size();
        }

        private int count(int what) {
            int rationed = 0;
            for (boolean one : world.rationed) {
                rationed += one ? 1 : 0;
            }
            int[] all = {world.all.size(), houses, works.size(), world.hour, rationed, sights.size(), past.size(),
                kept.size(), text.length()};
            return what < 0 || what >= all.length ? BAD : all[what];
        }
    }
}
