import java.util.Arrays;

/** A city lit by quarrels: lamps burn on dissent, and a household that agrees sits in the dark. */
public final class LampsOfDissent {
    public static final int BAD = -1, NO = -2, FULL = -3, NONE = -4;

    private static final String FIRST_TEXT =
        "h3;p0,5,4,0;p0,10,3,0;p3,7,6,1;p1,24,2,1;p2,7,5,2;p0,23,1,2;w0,6;w1,4;w2,9;s31;s7;";

    private static final int FRANK = 0, QUIET = 1, FALSE = 2, STUBBORN = 3;
    private static final int MOST_LETTERS = 200, MOST_NUMBERS = 4;
    private static final int MOST_PEOPLE = 8, MOST_HOUSES = 5, MOST_WORKS = 5, MOST_TOLD = 8;
    private static final int HOUSES_UNTOLD = 4, MOST_NEED = 30, MOST_TEMPER = 9, LOUD_TEMPER = 3, MOST_LIGHT = 60;
    private static final int SUBJECTS = 5, ALL_SUBJECTS = 31, NOWHERE = -1, SILENCE = -1;
    private static final int MOST_PASS = 30, LAST_HOUR = 999, MOST_AHEAD = 30, MOST_SETTLING = 60;
    private static final int MOST_MOVES = 4, MOST_TALK = 4, MOST_SEEN = 8, MOST_UNDONE = 8, MOST_KEPT = 2;
    private static final int MOST_Z = 9999, MOST_WINTER = 40, TENTHS = 10, NOTHING_LOST = 100, ABOVE_ALL_LIGHT = 1000;

    private final Text text = new Text();
    private City city = new City();
    private City draft = new City();
    private final Moment now = new Moment();
    private final Moment later = new Moment();
    private final Past past = new Past();
    private final Moment[] kept = new Moment[MOST_KEPT];
    private int keptCount;
    private final int[] seenHouse = new int[MOST_SEEN];
    private final int[] seenLight = new int[MOST_SEEN];
    private int seenCount;
    private final HomeSearch homeSearch = new HomeSearch();
    private final TalkSearch talkSearch = new TalkSearch();
    private final int[] spouse = new int[MOST_PEOPLE];

    public LampsOfDissent() {
        for (int k = 0; k < MOST_KEPT; k++) {
            kept[k] = new Moment();
        }
        for (int k = 0; k < FIRST_TEXT.length(); k++) {
            text.append(FIRST_TEXT.charAt(k));
        }
        layText();
        text.length = 0;
    }

    // ---- cities

    public int write(int letter) {
        if (letter < 32 || letter > 126) {
            return BAD;
        }
        return text.append(letter) ? text.length : FULL;
    }

    public int wipe() {
        int was = text.length;
        text.length = 0;
        return was;
    }

    public int fault() {
        return text.readInto(draft);
    }

    public int lay() {
        return layText() ? city.people : NO;
    }

    public int person(int i, int what) {
        if (!isPerson(i)) {
            return BAD;
        }
        switch (what) {
            case 0: return now.kind[i];
            case 1: return now.opinions[i];
            case 2: return now.temper[i];
            case 3: return now.home[i];
            case 4: return now.foesOf(i, city.talkedOf(now));
            default: return BAD;
        }
    }

    public int work(int k, int what) {
        if (k < 0 || k >= city.works || k >= MOST_WORKS) {
            return BAD;
        }
        switch (what) {
            case 0: return city.workHouse[k];
            case 1: return city.workNeed[k];
            case 2: return city.worksLit(now, city.talkedOf(now)) >> k & 1;
            default: return BAD;
        }
    }

    // ---- acts

    public int pass(int n) {
        if (n < 1 || n > MOST_PASS) {
            return BAD;
        }
        if (now.hour + n > LAST_HOUR) {
            return NO;
        }
        past.remember(now);
        for (int k = 0; k < n; k++) {
            now.goBy(city.talkedOf(now));
        }
        return now.hour;
    }

    public int move(int i, int h) {
        if (!isPerson(i) || !isHouse(h)) {
            return BAD;
        }
        past.remember(now);
        int was = now.home[i];
        now.home[i] = h;
        return was;
    }

    public int alter(int i, int subject) {
        if (!isPerson(i) || !isSubject(subject)) {
            return BAD;
        }
        past.remember(now);
        now.opinions[i] ^= 1 << subject;
        return now.opinions[i] >> subject & 1;
    }

    public int ration(int subject) {
        if (!isSubject(subject)) {
            return BAD;
        }
        past.remember(now);
        now.rations ^= 1 << subject;
        return now.rations >> subject & 1;
    }

    public int undo() {
        return past.restore(now) ? past.held : NO;
    }

    // ---- light

    public int light(int h, int d) {
        if (h != -1 && !isHouse(h) || d < 0 || d > MOST_AHEAD) {
            return BAD;
        }
        lookAhead(d);
        int talked = city.talkedOf(later);
        return h == -1 ? city.lightOfAll(later, talked) : later.lightOf(h, talked);
    }

    public int lit(int d) {
        if (d < 0 || d > MOST_AHEAD) {
            return BAD;
        }
        lookAhead(d);
        return city.worksLit(later, city.talkedOf(later));
    }

    public int reach(int h) {
        if (!isHouse(h)) {
            return BAD;
        }
        int dark = city.darkHouses(now, city.talkedOf(now));
        int reached = 0;
        for (int k = h; k < city.houses && (dark >> k & 1) == 1; k++) {
            reached |= 1 << k;
        }
        for (int k = h; k >= 0 && (dark >> k & 1) == 1; k--) {
            reached |= 1 << k;
        }
        return reached;
    }

    public int first() {
        int all = (1 << city.works) - 1;
        later.copy(now);
        for (int d = 0; d <= MOST_AHEAD; d++) {
            int talked = city.talkedOf(later);
            if (city.worksLit(later, talked) != all) {
                return d;
            }
            later.goBy(talked);
        }
        return NONE;
    }

    // ---- what would be

    public int homes(int i) {
        if (i != -1 && i != -2 && !isPerson(i)) {
            return BAD;
        }
        homeSearch.search(city, now);
        if (i == -1) {
            return homeSearch.bestLit;
        }
        return i == -2 ? homeSearch.bestMoved : homeSearch.best[i];
    }

    public int apart(int i, int j, int what) {
        if (!isPerson(i) || !isPerson(j) || i == j || what < 0 || what > 1) {
            return BAD;
        }
        if (!now.together(i, j) || city.houses < 2) {
            return NO;
        }
        int before = city.lightOfAll(now, city.talkedOf(now));
        int least = ABOVE_ALL_LIGHT;
        int how = 0;
        // "the first" is the lowest PERSON, then the lowest HOUSE, in whichever order the two are named
        for (int side = 0; side < 2; side++) {
            int who = side == 0 ? Math.min(i, j) : Math.max(i, j);
            for (int h = 0; h < city.houses; h++) {
                int lost = before - lightIfMoved(who, h);
                if (h != now.home[who] && lost < least) {
                    least = lost;
                    how = 8 * who + h;
                }
            }
        }
        return what == 0 ? least + NOTHING_LOST : how;
    }

    public int talk(int n, int k) {
        if (n < 1 || n > MOST_TALK || k < -1 || k >= n) {
            return BAD;
        }
        talkSearch.search(city, now, n);
        if (k == -1) {
            return talkSearch.most;
        }
        return talkSearch.best[k] == SILENCE ? NONE : talkSearch.best[k];
    }

    public int settles() {
        later.copy(now);
        for (int d = 1; d <= MOST_SETTLING; d++) {
            later.goBy(city.talkedOf(later));
            if (nobodyAtOdds(later, ALL_SUBJECTS)) {
                return d;
            }
        }
        return NONE;
    }

    // ---- what was seen

    public int seen(int h, int v) {
        if (!isHouse(h) || v < 0 || v > MOST_LIGHT) {
            return BAD;
        }
        if (seenCount >= MOST_SEEN) {
            return FULL;
        }
        seenHouse[seenCount] = h;
        seenLight[seenCount] = v;
        seenCount++;
        return seenCount;
    }

    public int forget() {
        int were = seenCount;
        seenCount = 0;
        return were;
    }

    public int may(int i, int what) {
        if (!isPerson(i) || what < 0 || what > 1) {
            return BAD;
        }
        int many = 0;
        int lowest = NONE;
        later.copy(now);
        for (int opinions = ALL_SUBJECTS; opinions >= 0; opinions--) {
            later.opinions[i] = opinions;
            if (agreesWithSeen(later)) {
                many++;
                lowest = opinions;
            }
        }
        return what == 0 ? many : lowest;
    }

    public int smokes() {
        int talked = city.talkedOf(now);
        int smoking = 0;
        for (int h = 0; h < city.houses; h++) {
            if (now.hasSmoke(h, talked)) {
                smoking |= 1 << h;
            }
        }
        return smoking;
    }

    public int married(int i) {
        if (!isPerson(i)) {
            return BAD;
        }
        Arrays.fill(spouse, NONE);
        for (int wedding = 0; wedding < MOST_PEOPLE / 2; wedding++) {
            marryMostUnlike();
        }
        return spouse[i];
    }

    public int falseBy(int h, int x, int part) {
        if (!isHouse(h) || x < 0 || x > TENTHS || part < 0 || part > 1) {
            return BAD;
        }
        int above = smokingChances(h, x);
        int below = power(TENTHS, Integer.bitCount(now.residentsOf(h)));
        return inLowestTerms(above, below, part);
    }

    public int winter(int z, int n, int what) {
        if (z < 0 || z > MOST_Z || n < 1 || n > MOST_WINTER || what < 0 || what > 1) {
            return BAD;
        }
        int worksLit = 0;
        int timesDark = 0;
        later.copy(now);
        for (int k = 0; k < n; k++) {
            alterByDraw(later, drawOf(z, k));
            int talked = city.talkedOf(later);
            worksLit += Integer.bitCount(city.worksLit(later, talked));
            timesDark += Integer.bitCount(city.darkHouses(later, talked));
            later.goBy(talked);
        }
        return what == 0 ? worksLit : timesDark;
    }

    // ---- kept

    public int keep() {
        if (keptCount >= MOST_KEPT) {
            return FULL;
        }
        kept[keptCount].copy(now);
        keptCount++;
        return keptCount;
    }

    public int back() {
        if (keptCount < 1) {
            return NO;
        }
        keptCount--;
        now.copy(kept[keptCount]);
        past.held = 0;
        return keptCount;
    }

    public int count(int what) {
        switch (what) {
            case 0: return city.people;
            case 1: return city.houses;
            case 2: return city.works;
            case 3: return now.hour;
            case 4: return Integer.bitCount(now.rations);
            case 5: return seenCount;
            case 6: return past.held;
            case 7: return keptCount;
            case 8: return text.length;
            default: return BAD;
        }
    }

    // ---- helpers of the calls

    private boolean isPerson(int i) {
        return i >= 0 && i < city.people && i < MOST_PEOPLE;
    }

    private boolean isHouse(int h) {
        return h >= 0 && h < city.houses;
    }

    private static boolean isSubject(int subject) {
        return subject >= 0 && subject < SUBJECTS;
    }

    /** The draft and the city change places only if the text can be laid, so that a NO changes nothing. */
    private boolean layText() {
        if (text.readInto(draft) != NONE || !draft.canBeLaid()) {
            return false;
        }
        City old = city;
        city = draft;
        draft = old;
        now.copy(city.start);
        past.held = 0;
        keptCount = 0;
        seenCount = 0;
        return true;
    }

    private void lookAhead(int hours) {
        later.copy(now);
        for (int k = 0; k < hours; k++) {
            later.goBy(city.talkedOf(later));
        }
    }

    private int lightIfMoved(int who, int h) {
        later.copy(now);
        later.home[who] = h;
        return city.lightOfAll(later, city.talkedOf(later));
    }

    private static boolean nobodyAtOdds(Moment moment, int talked) {
        for (int i = 0; i < MOST_PEOPLE; i++) {
            if (moment.foesOf(i, talked) != 0) {
                return false;
            }
        }
        return true;
    }

    private boolean agreesWithSeen(Moment moment) {
        int talked = city.talkedOf(moment);
        for (int k = 0; k < seenCount && k < MOST_SEEN; k++) {
            if (moment.lightOf(seenHouse[k], talked) != seenLight[k]) {
                return false;
            }
        }
        return true;
    }

    private void marryMostUnlike() {
        int most = 0;
        int lower = 0;
        int higher = 0;
        for (int i = 0; i < city.people && i < MOST_PEOPLE; i++) {
            for (int j = i + 1; j < city.people && j < MOST_PEOPLE; j++) {
                int unlike = Integer.bitCount(now.opinions[i] ^ now.opinions[j]);
                if (spouse[i] == NONE && spouse[j] == NONE && unlike > most) {
                    most = unlike;
                    lower = i;
                    higher = j;
                }
            }
        }
        if (most > 0) {
            spouse[lower] = higher;
            spouse[higher] = lower;
        }
    }

    /** Of ten to the power of how many live in the house: the chances by which it smokes. */
    private int smokingChances(int h, int x) {
        int residents = now.residentsOf(h);
        int many = Integer.bitCount(residents);
        int talked = city.talkedOf(now);
        int chances = 0;
        later.copy(now);
        for (int liars = 0; liars < 1 << MOST_PEOPLE; liars++) {
            if ((liars & ~residents) == 0) {
                later.drawKinds(now, liars);
                if (later.hasSmoke(h, talked)) {
                    int lying = Integer.bitCount(liars);
                    chances += power(x, lying) * power(TENTHS - x, many - lying);
                }
            }
        }
        return chances;
    }

    private static int power(int base, int times) {
        int product = 1;
        for (int k = 0; k < times; k++) {
            product *= base;
        }
        return product;
    }

    /** Twos and fives alone: below is a power of ten, so nothing else can be shared. */
    private static int inLowestTerms(int above, int below, int part) {
        int top = above;
        int bottom = below;
        for (int k = 0; k < MOST_PEOPLE; k++) {
            if (top % 2 == 0 && bottom % 2 == 0) {
                top /= 2;
                bottom /= 2;
            }
            if (top % 5 == 0 && bottom % 5 == 0) {
                top /= 5;
                bottom /= 5;
            }
        }
        return part == 0 ? top : bottom;
    }

    private static int drawOf(int z, int hoursGone) {
        long x = 7919L * z + 6151L * hoursGone + 1;
        return (int) (x * x % 65521 / 2);
    }

    private void alterByDraw(Moment moment, int draw) {
        if (city.people < 1) {
            return;
        }
        int who = draw % city.people;
        if (draw / 64 % 3 == 0 && isPerson(who)) {
            moment.opinions[who] ^= 1 << draw / 8 % SUBJECTS;
        }
    }

    /** The letters written, and how they are read. */
    private static final class Text {
        private final int[] letters = new int[MOST_LETTERS];
        private final int[] numbers = new int[MOST_NUMBERS];
        private int length;
        private int at;

        boolean append(int letter) {
            if (length >= MOST_LETTERS) {
                return false;
            }
            letters[length] = letter;
            length++;
            return true;
        }

        /** Answers the place of the first item that is not so, or NONE. */
        int readInto(City draft) {
            draft.clear();
            at = 0;
            for (int items = 0; items < MOST_LETTERS && at < length; items++) {
                int start = at;
                if (!readItem(draft)) {
                    return start;
                }
            }
            return NONE;
        }

        private boolean readItem(City draft) {
            int letter = letterHere();
            at++;
            switch (letter) {
                case 'p': return readNumbers(4) && draft.addPerson(numbers);
                case 'h': return readNumbers(1) && draft.tellHouses(numbers[0]);
                case 'w': return readNumbers(2) && draft.addWork(numbers[0], numbers[1]);
                case 's': return readNumbers(1) && draft.addSubjects(numbers[0]);
                default: return false;
            }
        }

        private boolean readNumbers(int many) {
            for (int k = 0; k < many && k < MOST_NUMBERS; k++) {
                int number = readNumber();
                int behind = k == many - 1 ? ';' : ',';
                if (number < 0 || letterHere() != behind) {
                    return false;
                }
                numbers[k] = number;
                at++;
            }
            return true;
        }

        /** One figure or two, -1 for none: a third one is then found where the sign behind the number ought to be. */
        private int readNumber() {
            int number = -1;
            for (int k = 0; k < 2; k++) {
                int figure = letterHere() - '0';
                if (figure < 0 || figure > 9) {
                    return number;
                }
                number = number < 0 ? figure : 10 * number + figure;
                at++;
            }
            return number;
        }

        private int letterHere() {
            return at >= 0 && at < length && at < MOST_LETTERS ? letters[at] : -1;
        }
    }

    /** What a text tells: it stays as it is from one laying to the next. */
    private static final class City {
        private final Moment start = new Moment();
        private final int[] workHouse = new int[MOST_WORKS];
        private final int[] workNeed = new int[MOST_WORKS];
        private final int[] subjects = new int[MOST_TOLD];
        private int houses;
        private int people;
        private int works;
        private int told;

        void clear() {
            start.clear();
            houses = HOUSES_UNTOLD;
            people = 0;
            works = 0;
            told = 0;
        }

        boolean addPerson(int[] numbers) {
            if (people >= MOST_PEOPLE || numbers.length < 4 || numbers[0] > STUBBORN || numbers[1] > ALL_SUBJECTS
                    || numbers[2] > MOST_TEMPER || numbers[3] >= MOST_HOUSES) {
                return false;
            }
            start.kind[people] = numbers[0];
            start.opinions[people] = numbers[1];
            start.temper[people] = numbers[2];
            start.home[people] = numbers[3];
            people++;
            return true;
        }

        boolean tellHouses(int many) {
            if (people + works + told > 0 || many < 1 || many > MOST_HOUSES) {
                return false;
            }
            houses = many;
            return true;
        }

        boolean addWork(int house, int need) {
            if (works >= MOST_WORKS || house >= houses || need < 1 || need > MOST_NEED) {
                return false;
            }
            workHouse[works] = house;
            workNeed[works] = need;
            works++;
            return true;
        }

        boolean addSubjects(int bits) {
            if (told >= MOST_TOLD || bits > ALL_SUBJECTS) {
                return false;
            }
            subjects[told] = bits;
            told++;
            return true;
        }

        boolean canBeLaid() {
            for (int i = 0; i < people && i < MOST_PEOPLE; i++) {
                if (start.home[i] >= houses) {
                    return false;
                }
            }
            return people > 0;
        }

        /** The subjects talked of in a moment's next hour. */
        int talkedOf(Moment moment) {
            if (told < 1 || told > MOST_TOLD) {
                return ALL_SUBJECTS & ~moment.rations;
            }
            return subjects[Math.floorMod(moment.hour, told)] & ~moment.rations;
        }

        int lightOfAll(Moment moment, int talked) {
            int sum = 0;
            for (int h = 0; h < houses; h++) {
                sum += moment.lightOf(h, talked);
            }
            return sum;
        }

        int worksLit(Moment moment, int talked) {
            int bits = 0;
            for (int k = 0; k < works && k < MOST_WORKS; k++) {
                if (moment.lightOf(workHouse[k], talked) >= workNeed[k]) {
                    bits |= 1 << k;
                }
            }
            return bits;
        }

        int darkHouses(Moment moment, int talked) {
            int bits = 0;
            for (int h = 0; h < houses; h++) {
                if (moment.lightOf(h, talked) == 0) {
                    bits |= 1 << h;
                }
            }
            return bits;
        }
    }

    /** The people as they are ahead of an hour; those that there are not live nowhere, so that loops need no count. */
    private static final class Moment {
        private final int[] kind = new int[MOST_PEOPLE];
        private final int[] opinions = new int[MOST_PEOPLE];
        private final int[] temper = new int[MOST_PEOPLE];
        private final int[] home = new int[MOST_PEOPLE];
        private final int[] foes = new int[MOST_PEOPLE];
        private int hour;
        private int rations;

        void clear() {
            Arrays.fill(kind, FRANK);
            Arrays.fill(opinions, 0);
            Arrays.fill(temper, 0);
            Arrays.fill(home, NOWHERE);
            hour = 0;
            rations = 0;
        }

        void copy(Moment from) {
            System.arraycopy(from.kind, 0, kind, 0, MOST_PEOPLE);
            System.arraycopy(from.opinions, 0, opinions, 0, MOST_PEOPLE);
            System.arraycopy(from.temper, 0, temper, 0, MOST_PEOPLE);
            System.arraycopy(from.home, 0, home, 0, MOST_PEOPLE);
            hour = from.hour;
            rations = from.rations;
        }

        boolean together(int i, int j) {
            return home[i] != NOWHERE && home[i] == home[j];
        }

        /** The subjects that two would be at odds on if they lived together. */
        int quarrelOf(int i, int j, int talked) {
            boolean hushed = kind[i] == QUIET && temper[i] < LOUD_TEMPER || kind[j] == QUIET && temper[j] < LOUD_TEMPER;
            return hushed ? 0 : (opinions[i] ^ opinions[j]) & talked;
        }

        private boolean isFalsePair(int i, int j) {
            return kind[i] == FALSE || kind[j] == FALSE;
        }

        /** The light of two if they lived together. */
        int lightOfTwo(int i, int j, int talked) {
            int full = Integer.bitCount(quarrelOf(i, j, talked)) * ((temper[i] + temper[j]) / 4 + 1);
            return isFalsePair(i, j) ? full / 2 : full;
        }

        int foesOf(int i, int talked) {
            int bits = 0;
            for (int j = 0; j < MOST_PEOPLE; j++) {
                if (i != j && together(i, j) && quarrelOf(i, j, talked) != 0) {
                    bits |= 1 << j;
                }
            }
            return bits;
        }

        int residentsOf(int h) {
            int bits = 0;
            for (int i = 0; i < MOST_PEOPLE; i++) {
                if (home[i] == h) {
                    bits |= 1 << i;
                }
            }
            return bits;
        }

        int lightOf(int h, int talked) {
            int sum = 0;
            for (int i = 0; i < MOST_PEOPLE; i++) {
                for (int j = i + 1; j < MOST_PEOPLE && home[i] == h; j++) {
                    if (home[j] == h) {
                        sum += lightOfTwo(i, j, talked);
                    }
                }
            }
            return Math.min(sum, MOST_LIGHT);
        }

        boolean hasSmoke(int h, int talked) {
            for (int i = 0; i < MOST_PEOPLE; i++) {
                for (int j = i + 1; j < MOST_PEOPLE && home[i] == h; j++) {
                    if (home[j] == h && isFalsePair(i, j) && quarrelOf(i, j, talked) != 0) {
                        return true;
                    }
                }
            }
            return false;
        }

        /** Those of the bits are false, whatever they are told to be, and no one else is. */
        void drawKinds(Moment told, int liars) {
            for (int i = 0; i < MOST_PEOPLE; i++) {
                int honest = told.kind[i] == FALSE ? FRANK : told.kind[i];
                kind[i] = (liars >> i & 1) == 1 ? FALSE : honest;
            }
        }

        void goBy(int talked) {
            // who was at odds is noted ahead: a quiet one's temper may change it on the way
            for (int i = 0; i < MOST_PEOPLE; i++) {
                foes[i] = foesOf(i, talked);
            }
            changeTempers();
            changeOpinions();
            hour++;
        }

        private void changeTempers() {
            for (int i = 0; i < MOST_PEOPLE; i++) {
                for (int j = i + 1; j < MOST_PEOPLE; j++) {
                    if (together(i, j)) {
                        int by = (foes[i] >> j & 1) == 1 ? 1 : -1;
                        temper[i] = Math.max(0, Math.min(MOST_TEMPER, temper[i] + by));
                        temper[j] = Math.max(0, Math.min(MOST_TEMPER, temper[j] + by));
                    }
                }
            }
        }

        private void changeOpinions() {
            for (int i = 0; i < MOST_PEOPLE; i++) {
                for (int j = i + 1; j < MOST_PEOPLE; j++) {
                    if (together(i, j) && temper[i] == 0 && temper[j] == 0 && kind[i] != STUBBORN) {
                        int unlike = opinions[i] ^ opinions[j];
                        opinions[i] ^= unlike & -unlike;
                    }
                }
            }
        }
    }

    /** What can be undone: a ring, in which the oldest gives way to the newest. */
    private static final class Past {
        private final Moment[] ring = new Moment[MOST_UNDONE];
        private int next;
        private int held;

        Past() {
            for (int k = 0; k < MOST_UNDONE; k++) {
                ring[k] = new Moment();
            }
        }

        void remember(Moment moment) {
            ring[next].copy(moment);
            next = (next + 1) % MOST_UNDONE;
            held = Math.min(held + 1, MOST_UNDONE);
        }

        boolean restore(Moment moment) {
            if (held < 1) {
                return false;
            }
            next = (next + MOST_UNDONE - 1) % MOST_UNDONE;
            held--;
            moment.copy(ring[next]);
            return true;
        }
    }

    /** Tries the ways to live, the first ones first, so that only a better one takes a found one's place. */
    private static final class HomeSearch {
        private final int[] lightOfTwo = new int[MOST_PEOPLE * MOST_PEOPLE];
        private final int[] chosen = new int[MOST_PEOPLE];
        private final int[] lights = new int[MOST_HOUSES];
        private final int[] best = new int[MOST_PEOPLE];
        private int bestLit;
        private int bestMoved;

        void search(City city, Moment now) {
            int talked = city.talkedOf(now);
            for (int i = 0; i < MOST_PEOPLE; i++) {
                for (int j = i + 1; j < MOST_PEOPLE; j++) {
                    lightOfTwo[i * MOST_PEOPLE + j] = now.lightOfTwo(i, j, talked);
                }
            }
            Arrays.fill(lights, 0);
            bestLit = -1;
            bestMoved = 0;
            settle(this, city, now, 0, 0);
        }

        private static void settle(HomeSearch way, City city, Moment now, int who, int moved) {
            if (who >= city.people || who >= MOST_PEOPLE) {
                way.weigh(city, moved);
                return;
            }
            for (int h = 0; h < city.houses && h < MOST_HOUSES; h++) {
                int moves = h == now.home[who] ? moved : moved + 1;
                // where all works can be lit, only a way with fewer moves is better
                boolean hopeless = way.bestLit == city.works && moves >= way.bestMoved;
                if (moves <= MOST_MOVES && !hopeless) {
                    int more = way.lightAdded(who, h);
                    way.chosen[who] = h;
                    way.lights[h] += more;
                    settle(way, city, now, who + 1, moves);
                    way.lights[h] -= more;
                }
            }
        }

        private int lightAdded(int who, int h) {
            int sum = 0;
            for (int i = 0; i < who; i++) {
                if (chosen[i] == h) {
                    sum += lightOfTwo[i * MOST_PEOPLE + who];
                }
            }
            return sum;
        }

        private void weigh(City city, int moved) {
            int lit = 0;
            for (int k = 0; k < city.works && k < MOST_WORKS; k++) {
                int h = city.workHouse[k];
                // no work needs as much as the most light of a house, so the lights may stay uncut here
                if (h >= 0 && h < MOST_HOUSES && lights[h] >= city.workNeed[k]) {
                    lit++;
                }
            }
            if (lit > bestLit || lit == bestLit && moved < bestMoved) {
                bestLit = lit;
                bestMoved = moved;
                System.arraycopy(chosen, 0, best, 0, MOST_PEOPLE);
            }
        }
    }

    /** Tries the rows of subjects, the first ones first, so that only a brighter one takes a found one's place. */
    private static final class TalkSearch {
        private final Moment[] steps = new Moment[MOST_TALK + 1];
        private final int[] row = new int[MOST_TALK];
        private final int[] best = new int[MOST_TALK];
        private int most;

        TalkSearch() {
            for (int k = 0; k <= MOST_TALK; k++) {
                steps[k] = new Moment();
            }
        }

        void search(City city, Moment now, int hours) {
            steps[0].copy(now);
            most = -1;
            discuss(this, city, hours, 0, 0);
        }

        private static void discuss(TalkSearch way, City city, int hours, int at, int had) {
            if (at >= hours || at >= MOST_TALK) {
                way.weigh(had);
                return;
            }
            Moment here = way.steps[at];
            Moment next = way.steps[at + 1];
            for (int subject = SILENCE; subject < SUBJECTS; subject++) {
                int talked = subject == SILENCE ? 0 : 1 << subject & ~here.rations;
                way.row[at] = subject;
                // nothing is asked of what comes behind the last hour
                if (at + 1 < hours) {
                    next.copy(here);
                    next.goBy(talked);
                }
                discuss(way, city, hours, at + 1, had + city.lightOfAll(here, talked));
            }
        }

        private void weigh(int had) {
            if (had > most) {
                most = had;
                System.arraycopy(row, 0, best, 0, MOST_TALK);
            }
        }
    }
}
