/**
 * A town of frozen canals in which each has one skate, so that two glide together or one pushes.
 * What every call answers is told in ../shared/DOC.md; its words in capitals stand here in small letters.
 * All rows are made in the constructor and used again: no call makes an object.
 */
public final class OneSkate {
    public static final int UNKNOWN = -1, BAD = -2, LATE = -3, FULL = -4, NONE = -9;

    private static final int MOST_BYTES = 80;
    private static final int MOST_WRITTEN = 8;
    private static final int MOST_CORNERS = 6;
    private static final int MOST_PEOPLE = 6;
    private static final int MOST_CANALS = 8;
    private static final int MOST_ACTS = 12;
    private static final int MOST_WORN = 9;
    private static final int MOST_SEEN = 8;
    private static final int MOST_WAIT = 8;
    private static final int MOST_MINUTES = 99;
    private static final int MOST_BORN = 60;
    private static final int SLOTS = 2;
    private static final long SEED_TIMES = 6364136223846793005L;
    private static final long SEED_AND = 1442695040888963407L;
    /** Three left feet and three right ones at one corner: 1 + 9 + 18 + 6; no other feet have more. */
    private static final int MOST_MATCHINGS = 34;
    /** What a clock says in the end if there is no way: later than all. */
    private static final int NEVER = 0x7fffffff;
    private static final int NOBODY = -1;
    private static final int LEFT = 1;
    private static final int RIGHT = 2;

    private final Text text = new Text();
    private Town told = new Town();
    private Town draft = new Town();
    private final Standing now = new Standing();
    private final Acts acts = new Acts();
    private final Slot[] slots = new Slot[SLOTS];
    private final Ends ends = new Ends();
    private final Matchings matchings = new Matchings();
    private final Asking asked = new Asking();
    private final Seen seen = new Seen();
    private final Waiting waiting = new Waiting();
    private long chance;

    public OneSkate() {
        for (int slot = 0; slot < SLOTS; slot++) {
            slots[slot] = new Slot();
        }
    }

    // ---- the town

    public int write(int n, long v) {
        if (n < 1 || n > MOST_WRITTEN) {
            return BAD;
        }
        if (n > MOST_BYTES - text.length) {
            return FULL;
        }
        for (int behind = n - 1; behind >= 0; behind--) {
            text.append((int) (v >>> (8 * behind)) & 255);
        }
        return text.length;
    }

    public int wipe() {
        int was = text.length;
        text.length = 0;
        return was;
    }

    public int fault() {
        return draft.readFrom(text);
    }

    public int town() {
        if (draft.readFrom(text) != NONE) {
            return LATE;
        }
        Town old = told;
        told = draft;
        draft = old;
        told.measure();
        now.begin(told);
        acts.count = 0;
        for (int slot = 0; slot < SLOTS; slot++) {
            slots[slot].isKept = false;
        }
        return told.people;
    }

    public int about(int what) {
        switch (what) {
            case 0: return told.corners;
            case 1: return told.canals;
            case 2: return told.people;
            case 3: return told.feet;
            case 4: return now.atGoal(told);
            case 5: return now.clocks(told);
            case 6: return acts.count;
            case 7: return seen.count;
            case 8: return text.length;
            default: return BAD;
        }
    }

    public int person(int person, int what) {
        if (!told.hasPerson(person)) {
            return UNKNOWN;
        }
        switch (what) {
            case 0: return told.isLeft(person) ? 1 : 0;
            case 1: return now.corner[person];
            case 2: return told.pace[person];
            case 3: return told.goal[person];
            case 4: return now.clock[person];
            case 5: return now.worn[person];
            default: return BAD;
        }
    }

    public int canal(int canal, int what) {
        if (!told.hasCanal(canal)) {
            return UNKNOWN;
        }
        switch (what) {
            case 0: return told.lesserEnd[canal];
            case 1: return told.otherEnd[canal];
            case 2: return told.length[canal];
            case 3: return told.bend[canal];
            default: return BAD;
        }
    }

    // ---- acts

    public int glide(int one, int other, int canal) {
        if (!told.hasPerson(one) || !told.hasPerson(other) || !told.hasCanal(canal)) {
            return UNKNOWN;
        }
        if (!told.areUnlike(one, other)) {
            return BAD;
        }
        if (now.corner[one] != now.corner[other] || !told.isEnd(canal, now.corner[one])) {
            return LATE;
        }
        acts.remember(now);
        return told.isLeft(one) ? now.glideAlong(told, one, other, canal) : now.glideAlong(told, other, one, canal);
    }

    public int push(int person, int canal) {
        if (!told.hasPerson(person) || !told.hasCanal(canal)) {
            return UNKNOWN;
        }
        if (!told.isEnd(canal, now.corner[person])) {
            return LATE;
        }
        acts.remember(now);
        return now.pushAlong(told, person, canal);
    }

    public int undo() {
        if (acts.count == 0) {
            return LATE;
        }
        acts.takeBack(now);
        return acts.count;
    }

    // ---- ways

    public int way(int one, int other, int from, int to) {
        if (!told.hasPerson(one) || !told.hasPerson(other) || !told.hasCorner(from) || !told.hasCorner(to)) {
            return UNKNOWN;
        }
        if (!told.areUnlike(one, other)) {
            return BAD;
        }
        if (told.isLeft(one)) {
            ends.spread(told, now, one, other, from);
        } else {
            ends.spread(told, now, other, one, from);
        }
        return orNone(ends.reach[to]);
    }

    public int alone(int person, int from, int to) {
        if (!told.hasPerson(person) || !told.hasCorner(from) || !told.hasCorner(to)) {
            return UNKNOWN;
        }
        return orNone(told.aloneMinutes(person, from, to));
    }

    // ---- matchings

    public int soonest() {
        ends.foresee(told, now);
        return orNone(leastClocks(told.feet));
    }

    public int soonestWith(int person) {
        if (!told.hasPerson(person)) {
            return UNKNOWN;
        }
        ends.foresee(told, now);
        if (leastClocks(told.feet) == NEVER) {
            return NONE;
        }
        return matchings.mate(matchings.soonest, person);
    }

    public int worth(int person) {
        if (!told.hasPerson(person)) {
            return UNKNOWN;
        }
        ends.foresee(told, now);
        int asIs = leastClocks(told.feet);
        int changed = leastClocks(told.feet ^ (1 << person));
        return asIs == NEVER || changed == NEVER ? NONE : changed - asIs + 1000;
    }

    public int byLaw() {
        ends.foresee(told, now);
        int best = NONE;
        int least = NEVER;
        for (int feet = 0; feet < 1 << told.people; feet++) {
            int clocks = leastClocks(feet);
            if (clocks < least) {
                least = clocks;
                best = feet;
            }
        }
        return best;
    }

    public int leftAlone() {
        ends.foresee(told, now);
        matchings.list(told, now, told.feet);
        int found = 0;
        for (int matching = 0; matching < matchings.count; matching++) {
            if (matchings.isLeftAlone(matching, ends)) {
                found++;
            }
        }
        return found;
    }

    public int asking(int person) {
        if (!told.hasPerson(person)) {
            return UNKNOWN;
        }
        ends.foresee(told, now);
        matchings.list(told, now, told.feet);
        asked.askAll(matchings, ends);
        int mate = asked.mate[person];
        return mate == NOBODY ? person : mate;
    }

    // ---- guessed

    public int see(int one, int other, boolean were) {
        if (!told.hasPerson(one) || !told.hasPerson(other)) {
            return UNKNOWN;
        }
        if (seen.count >= MOST_SEEN) {
            return FULL;
        }
        seen.add(one, other, were);
        return seen.count;
    }

    public int unsee() {
        int was = seen.count;
        seen.count = 0;
        return was;
    }

    public int fits() {
        matchings.list(told, now, told.feet);
        int found = 0;
        for (int matching = 0; matching < matchings.count; matching++) {
            if (seen.agreesWith(matchings, matching)) {
                found++;
            }
        }
        return found;
    }

    public int may(int person) {
        if (!told.hasPerson(person)) {
            return UNKNOWN;
        }
        matchings.list(told, now, told.feet);
        int found = 0;
        for (int matching = 0; matching < matchings.count; matching++) {
            if (seen.agreesWith(matchings, matching)) {
                int mate = matchings.mate(matching, person);
                found |= mate == person ? 1 << MOST_PEOPLE : 1 << mate;
            }
        }
        return found;
    }

    public long waits(int g, int h, int n, int x, boolean upper) {
        if (!areMinutes(g) || !areMinutes(h) || n < 0 || n > MOST_WAIT || !areTenths(x)) {
            return BAD;
        }
        waiting.reckon(g, h, x);
        return waiting.inLeastTerms(n, upper);
    }

    public int howLong(int g, int h, int x) {
        if (!areMinutes(g) || !areMinutes(h) || !areTenths(x)) {
            return BAD;
        }
        waiting.reckon(g, h, x);
        return waiting.bestWait();
    }

    public long seed(long v) {
        long was = chance;
        chance = v;
        return was;
    }

    public int winter(int m) {
        if (m < 1 || m > MOST_BORN) {
            return BAD;
        }
        int left = Integer.bitCount(told.feet);
        for (int child = 0; child < m; child++) {
            chance = chance * SEED_TIMES + SEED_AND;
            if ((chance >>> 33) % 2 == 0) {
                left++;
            }
        }
        return Math.min(left, told.people + m - left);
    }

    // ---- slots

    public int keep(int slot) {
        if (slot < 0 || slot >= SLOTS) {
            return UNKNOWN;
        }
        slots[slot].standing.copyFrom(now);
        slots[slot].isKept = true;
        return now.clocks(told);
    }

    public int again(int slot) {
        if (slot < 0 || slot >= SLOTS) {
            return UNKNOWN;
        }
        if (!slots[slot].isKept) {
            return LATE;
        }
        now.copyFrom(slots[slot].standing);
        acts.count = 0;
        return now.clocks(told);
    }

    // ---- what several calls need

    /** The least clocks together by these feet, of what ends foresees; matchings.soonest is where. */
    private int leastClocks(int feet) {
        matchings.list(told, now, feet);
        return matchings.findSoonest(ends);
    }

    private static int orNone(int minutes) {
        return minutes == NEVER ? NONE : minutes;
    }

    private static boolean areMinutes(int minutes) {
        return minutes >= 0 && minutes <= MOST_MINUTES;
    }

    private static boolean areTenths(int tenths) {
        return tenths >= 0 && tenths <= 10;
    }

    /** Minutes that may be NEVER, put together. */
    private static int plus(int one, int other) {
        return one == NEVER || other == NEVER ? NEVER : one + other;
    }

    /** The bytes that were written. */
    private static final class Text {
        final int[] bytes = new int[MOST_BYTES];
        int length;

        void append(int sign) {
            if (length < MOST_BYTES) {
                bytes[length] = sign;
                length++;
            }
        }
    }

    /** What a text tells: corners, canals, people; nothing that an act changes. */
    private static final class Town {
        private static final int HEAD = 2;
        private static final int PART = 5;

        int corners = 2;
        int canals;
        int people;
        /** Bits: who has the left foot. */
        int feet;
        final int[] lesserEnd = new int[MOST_CANALS];
        final int[] otherEnd = new int[MOST_CANALS];
        final int[] length = new int[MOST_CANALS];
        final int[] bend = new int[MOST_CANALS];
        final int[] start = new int[MOST_PEOPLE];
        final int[] pace = new int[MOST_PEOPLE];
        final int[] goal = new int[MOST_PEOPLE];
        /** How long the canals between two corners are together, at least: what one alone needs. */
        final int[] apart = new int[MOST_CORNERS * MOST_CORNERS];
        /** The kind of the part that is being read. */
        private int kind;
        /** The corner that the canal being read was told to begin at. */
        private int firstEnd;

        /** The fault of the text; where it has none, this town is the one it tells (but for measure). */
        int readFrom(Text text) {
            corners = 2;
            canals = 0;
            people = 0;
            feet = 0;
            for (int place = 0; place < text.length && place < MOST_BYTES; place++) {
                if (!takes(place, text.bytes[place])) {
                    return place;
                }
            }
            boolean isWhole = text.length >= HEAD && (text.length - HEAD) % PART == 0;
            return isWhole ? NONE : text.length;
        }

        private boolean takes(int place, int sign) {
            if (place == 0) {
                return sign == 'N';
            }
            if (place == 1) {
                corners = sign - '0';
                return corners >= 2 && corners <= MOST_CORNERS;
            }
            int field = (place - HEAD) % PART;
            if (field == 0) {
                kind = sign;
                return sign == 'C' ? hasRoomForCanal() : sign == 'P' && people < MOST_PEOPLE;
            }
            return kind == 'C' ? takesOfCanal(field, sign) : takesOfPerson(field, sign);
        }

        private boolean hasRoomForCanal() {
            return canals < MOST_CANALS && canals < corners * (corners - 1) / 2;
        }

        private boolean takesOfCanal(int field, int sign) {
            if (canals >= MOST_CANALS) {
                return false;
            }
            int digit = sign - '0';
            switch (field) {
                case 1:
                    firstEnd = digit;
                    return hasCorner(digit) && canBeEnd(digit);
                case 2:
                    lesserEnd[canals] = Math.min(firstEnd, digit);
                    otherEnd[canals] = Math.max(firstEnd, digit);
                    return hasCorner(digit) && canJoin(firstEnd, digit);
                case 3:
                    length[canals] = digit;
                    return digit >= 1 && digit <= 9;
                default:
                    bend[canals] = sign == 'l' ? LEFT : sign == 'r' ? RIGHT : 0;
                    canals++;
                    return sign == 'l' || sign == 'r' || sign == 's';
            }
        }

        private boolean takesOfPerson(int field, int sign) {
            if (people >= MOST_PEOPLE) {
                return false;
            }
            int digit = sign - '0';
            switch (field) {
                case 1:
                    feet |= sign == 'l' ? 1 << people : 0;
                    return sign == 'l' || sign == 'r';
                case 2:
                    start[people] = digit;
                    return hasCorner(digit);
                case 3:
                    pace[people] = digit;
                    return digit >= 1 && digit <= 9;
                default:
                    goal[people] = digit;
                    people++;
                    return hasCorner(digit);
            }
        }

        /** Whether a canal that begins here can still be told. */
        private boolean canBeEnd(int corner) {
            for (int other = 0; other < corners; other++) {
                if (canJoin(corner, other)) {
                    return true;
                }
            }
            return false;
        }

        private boolean canJoin(int one, int other) {
            if (one == other) {
                return false;
            }
            for (int canal = 0; canal < canals; canal++) {
                if (isEnd(canal, one) && isEnd(canal, other)) {
                    return false;
                }
            }
            return true;
        }

        void measure() {
            for (int one = 0; one < corners; one++) {
                for (int other = 0; other < corners; other++) {
                    apart[one * MOST_CORNERS + other] = one == other ? 0 : NEVER;
                }
            }
            for (int canal = 0; canal < canals; canal++) {
                int one = lesserEnd[canal];
                int other = otherEnd[canal];
                apart[one * MOST_CORNERS + other] = length[canal];
                apart[other * MOST_CORNERS + one] = length[canal];
            }
            for (int over = 0; over < corners; over++) {
                for (int one = 0; one < corners; one++) {
                    measureOver(one, over);
                }
            }
        }

        private void measureOver(int one, int over) {
            for (int other = 0; other < corners; other++) {
                int sum = plus(apart[one * MOST_CORNERS + over], apart[over * MOST_CORNERS + other]);
                if (sum < apart[one * MOST_CORNERS + other]) {
                    apart[one * MOST_CORNERS + other] = sum;
                }
            }
        }

        boolean hasCorner(int corner) {
            return corner >= 0 && corner < corners;
        }

        boolean hasPerson(int person) {
            return person >= 0 && person < people;
        }

        boolean hasCanal(int canal) {
            return canal >= 0 && canal < canals;
        }

        boolean isLeft(int person) {
            return (feet >> person & 1) == 1;
        }

        boolean areUnlike(int one, int other) {
            return isLeft(one) != isLeft(other);
        }

        boolean isEnd(int canal, int corner) {
            return lesserEnd[canal] == corner || otherEnd[canal] == corner;
        }

        int acrossFrom(int canal, int corner) {
            return lesserEnd[canal] == corner ? otherEnd[canal] : lesserEnd[canal];
        }

        int pushMinutes(int person, int far) {
            return 3 * far * (10 - pace[person]);
        }

        /** Alone, or NEVER. */
        int aloneMinutes(int person, int from, int to) {
            int far = apart[from * MOST_CORNERS + to];
            return far == NEVER ? NEVER : pushMinutes(person, far);
        }
    }

    /** Where people are, their clocks, how worn they are: what acts change. */
    private static final class Standing {
        final int[] corner = new int[MOST_PEOPLE];
        final int[] clock = new int[MOST_PEOPLE];
        final int[] worn = new int[MOST_PEOPLE];

        void begin(Town town) {
            for (int person = 0; person < town.people; person++) {
                corner[person] = town.start[person];
                clock[person] = 0;
                worn[person] = 0;
            }
        }

        void copyFrom(Standing other) {
            for (int person = 0; person < MOST_PEOPLE; person++) {
                corner[person] = other.corner[person];
                clock[person] = other.clock[person];
                worn[person] = other.worn[person];
            }
        }

        int clocks(Town town) {
            int sum = 0;
            for (int person = 0; person < town.people; person++) {
                sum += clock[person];
            }
            return sum;
        }

        int atGoal(Town town) {
            int found = 0;
            for (int person = 0; person < town.people; person++) {
                if (corner[person] == town.goal[person]) {
                    found |= 1 << person;
                }
            }
            return found;
        }

        int glideMinutes(Town town, int left, int right, int canal) {
            int slower = Math.min(town.pace[left], town.pace[right]);
            int minutes = town.length[canal] * (10 - slower);
            if (town.bend[canal] == LEFT) {
                return minutes + worn[left];
            }
            return town.bend[canal] == RIGHT ? minutes + worn[right] : minutes;
        }

        int glideAlong(Town town, int left, int right, int canal) {
            int minutes = glideMinutes(town, left, right, canal);
            int end = Math.max(clock[left], clock[right]) + minutes;
            arrive(left, town.acrossFrom(canal, corner[left]), end);
            arrive(right, town.acrossFrom(canal, corner[right]), end);
            if (town.bend[canal] == LEFT) {
                wear(left);
            } else if (town.bend[canal] == RIGHT) {
                wear(right);
            }
            return minutes;
        }

        int pushAlong(Town town, int person, int canal) {
            int minutes = town.pushMinutes(person, town.length[canal]);
            arrive(person, town.acrossFrom(canal, corner[person]), clock[person] + minutes);
            return minutes;
        }

        private void arrive(int person, int where, int when) {
            corner[person] = where;
            clock[person] = when;
        }

        private void wear(int person) {
            worn[person] = Math.min(worn[person] + 1, MOST_WORN);
        }
    }

    /** How all stood before each of the last acts. */
    private static final class Acts {
        private final Standing[] before = new Standing[MOST_ACTS];
        int count;

        Acts() {
            for (int act = 0; act < MOST_ACTS; act++) {
                before[act] = new Standing();
            }
        }

        void remember(Standing now) {
            if (count >= MOST_ACTS) {
                forgetFirst();
            }
            before[count].copyFrom(now);
            count++;
        }

        private void forgetFirst() {
            Standing first = before[0];
            for (int act = 1; act < MOST_ACTS; act++) {
                before[act - 1] = before[act];
            }
            before[MOST_ACTS - 1] = first;
            count = MOST_ACTS - 1;
        }

        void takeBack(Standing now) {
            if (count > 0) {
                count--;
                now.copyFrom(before[count]);
            }
        }
    }

    private static final class Slot {
        final Standing standing = new Standing();
        boolean isKept;
    }

    /** What the clocks say in the end, of each alone and of each two at one corner, whichever has the left foot. */
    private static final class Ends {
        /** The least minutes of glides to each corner, as spread found them. */
        final int[] reach = new int[MOST_CORNERS];
        private final int[] byOneself = new int[MOST_PEOPLE];
        /** By foot (left: 1), person, mate: the person's clock. */
        private final int[] together = new int[2 * MOST_PEOPLE * MOST_PEOPLE];

        /** The clock of one with that mate (itself: alone), by these feet. */
        int clockOf(int person, int mate, int feet) {
            return person == mate ? byOneself[person] : together[at(feet >> person & 1, person, mate)];
        }

        private static int at(int foot, int person, int mate) {
            return (foot * MOST_PEOPLE + person) * MOST_PEOPLE + mate;
        }

        void foresee(Town town, Standing now) {
            for (int one = 0; one < town.people; one++) {
                int minutes = town.aloneMinutes(one, now.corner[one], town.goal[one]);
                byOneself[one] = plus(now.clock[one], minutes);
                for (int other = one + 1; other < town.people; other++) {
                    if (now.corner[one] == now.corner[other]) {
                        foreseeTwo(town, now, one, other, true);
                        foreseeTwo(town, now, one, other, false);
                    }
                }
            }
        }

        private void foreseeTwo(Town town, Standing now, int lesser, int greater, boolean isLesserLeft) {
            if (isLesserLeft) {
                spread(town, now, lesser, greater, now.corner[lesser]);
            } else {
                spread(town, now, greater, lesser, now.corner[lesser]);
            }
            int lessersGoal = town.goal[lesser];
            int greatersGoal = town.goal[greater];
            int begin = Math.max(now.clock[lesser], now.clock[greater]);
            int lesserFirst = plus(begin, reach[lessersGoal]);
            int greaterThen = plus(lesserFirst, town.aloneMinutes(greater, lessersGoal, greatersGoal));
            int greaterFirst = plus(begin, reach[greatersGoal]);
            int lesserThen = plus(greaterFirst, town.aloneMinutes(lesser, greatersGoal, lessersGoal));
            int byLessers = plus(lesserFirst, greaterThen);
            int byGreaters = plus(greaterFirst, lesserThen);
            // If one of them never comes, neither has come by the pair.
            boolean isNever = byLessers == NEVER && byGreaters == NEVER;
            boolean isLessers = byLessers <= byGreaters;
            int foot = isLesserLeft ? 1 : 0;
            together[at(foot, lesser, greater)] = isNever ? NEVER : isLessers ? lesserFirst : lesserThen;
            together[at(1 - foot, greater, lesser)] = isNever ? NEVER : isLessers ? greaterThen : greaterFirst;
        }

        /** Finds reach: how soon these two glide from there to each corner, worn as they are now all the time. */
        void spread(Town town, Standing now, int left, int right, int from) {
            for (int corner = 0; corner < MOST_CORNERS; corner++) {
                reach[corner] = corner == from ? 0 : NEVER;
            }
            boolean isSooner = true;
            for (int round = 1; round < town.corners && isSooner; round++) {
                isSooner = false;
                for (int canal = 0; canal < town.canals; canal++) {
                    int minutes = now.glideMinutes(town, left, right, canal);
                    isSooner |= reachOver(town.lesserEnd[canal], town.otherEnd[canal], minutes);
                    isSooner |= reachOver(town.otherEnd[canal], town.lesserEnd[canal], minutes);
                }
            }
        }

        private boolean reachOver(int from, int to, int minutes) {
            int sum = plus(reach[from], minutes);
            if (sum >= reach[to]) {
                return false;
            }
            reach[to] = sum;
            return true;
        }
    }

    /** All matchings by some feet, in the order in which the document likes them. */
    private static final class Matchings {
        int count;
        /** Which one is the soonest, as findSoonest found it. */
        int soonest;
        int people;
        int feet;
        /** Bits, of each one: with whom it could be a pair. */
        final int[] open = new int[MOST_PEOPLE];
        private final int[] mates = new int[MOST_MATCHINGS * MOST_PEOPLE];
        private final int[] trial = new int[MOST_PEOPLE];

        void list(Town town, Standing now, int byFeet) {
            people = town.people;
            feet = byFeet;
            count = 0;
            for (int person = 0; person < people; person++) {
                trial[person] = person;
                open[person] = openTo(person, now);
            }
            matchFrom(this, 0);
        }

        private int openTo(int person, Standing now) {
            int found = 0;
            for (int other = 0; other < people; other++) {
                boolean areUnlike = (feet >> person & 1) != (feet >> other & 1);
                if (areUnlike && now.corner[person] == now.corner[other]) {
                    found |= 1 << other;
                }
            }
            return found;
        }

        /** Matches this person and all greater ones in every way: with nobody first, then with the least. */
        private static void matchFrom(Matchings all, int person) {
            if (person >= all.people || person >= MOST_PEOPLE) {
                all.addTrial();
                return;
            }
            matchFrom(all, person + 1);
            if (all.trial[person] != person) {
                return;
            }
            for (int mate = person + 1; mate < all.people; mate++) {
                if (all.couldPair(person, mate) && all.trial[mate] == mate) {
                    all.trial[person] = mate;
                    all.trial[mate] = person;
                    matchFrom(all, person + 1);
                    all.trial[person] = person;
                    all.trial[mate] = mate;
                }
            }
        }

        private void addTrial() {
            if (count < MOST_MATCHINGS) {
                for (int person = 0; person < people; person++) {
                    mates[count * MOST_PEOPLE + person] = trial[person];
                }
                count++;
            }
        }

        boolean couldPair(int one, int other) {
            return (open[one] >> other & 1) == 1;
        }

        /** With whom one is in a matching; itself: nobody. */
        int mate(int matching, int person) {
            return mates[matching * MOST_PEOPLE + person];
        }

        /** The least clocks together, or NEVER; the first matching of like ones is the soonest. */
        int findSoonest(Ends ends) {
            soonest = 0;
            int least = NEVER;
            for (int matching = 0; matching < count; matching++) {
                int clocks = clocksOf(matching, ends);
                if (clocks < least) {
                    least = clocks;
                    soonest = matching;
                }
            }
            return least;
        }

        private int clocksOf(int matching, Ends ends) {
            int sum = 0;
            for (int person = 0; person < people; person++) {
                sum = plus(sum, clockOf(matching, person, ends));
            }
            return sum;
        }

        private int clockOf(int matching, int person, Ends ends) {
            return ends.clockOf(person, mate(matching, person), feet);
        }

        boolean isLeftAlone(int matching, Ends ends) {
            for (int one = 0; one < people; one++) {
                // With itself as the other: one in a pair that would alone.
                for (int other = one; other < people; other++) {
                    boolean canGo = one == other || couldPair(one, other);
                    if (canGo && isSooner(matching, one, other, ends) && isSooner(matching, other, one, ends)) {
                        return false;
                    }
                }
            }
            return true;
        }

        private boolean isSooner(int matching, int person, int other, Ends ends) {
            return ends.clockOf(person, other, feet) < clockOf(matching, person, ends);
        }
    }

    /** Those with left feet ask, until none can ask any more. */
    private static final class Asking {
        /** No one asks another one twice. */
        private static final int MOST_ASKED = MOST_PEOPLE * MOST_PEOPLE;

        final int[] mate = new int[MOST_PEOPLE];
        /** Bits, of each one that asks: who refused it. */
        private final int[] refused = new int[MOST_PEOPLE];

        void askAll(Matchings all, Ends ends) {
            for (int person = 0; person < MOST_PEOPLE; person++) {
                mate[person] = NOBODY;
                refused[person] = 0;
            }
            boolean goesOn = true;
            for (int time = 0; time < MOST_ASKED && goesOn; time++) {
                goesOn = askOnce(all, ends);
            }
        }

        /** The least one that can ask does; false: there is none. */
        private boolean askOnce(Matchings all, Ends ends) {
            for (int asker = 0; asker < all.people; asker++) {
                if ((all.feet >> asker & 1) == 1 && mate[asker] == NOBODY) {
                    int liked = likedMost(asker, all, ends);
                    if (liked != NOBODY) {
                        answer(asker, liked, all.feet, ends);
                        return true;
                    }
                }
            }
            return false;
        }

        private int likedMost(int asker, Matchings all, Ends ends) {
            int found = NOBODY;
            int least = ends.clockOf(asker, asker, all.feet);
            for (int other = 0; other < all.people; other++) {
                boolean canAsk = all.couldPair(asker, other) && (refused[asker] >> other & 1) == 0;
                if (canAsk && ends.clockOf(asker, other, all.feet) < least) {
                    least = ends.clockOf(asker, other, all.feet);
                    found = other;
                }
            }
            return found;
        }

        private void answer(int asker, int liked, int feet, Ends ends) {
            int held = mate[liked];
            int clock = ends.clockOf(liked, asker, feet);
            boolean takes = clock < ends.clockOf(liked, liked, feet);
            if (takes && held != NOBODY) {
                takes = clock < ends.clockOf(liked, held, feet);
            }
            if (!takes) {
                refused[asker] |= 1 << liked;
                return;
            }
            if (held != NOBODY) {
                mate[held] = NOBODY;
                refused[held] |= 1 << liked;
            }
            mate[asker] = liked;
            mate[liked] = asker;
        }
    }

    /** Who was seen with whom, or not; one with itself: with nobody. */
    private static final class Seen {
        private final int[] one = new int[MOST_SEEN];
        private final int[] other = new int[MOST_SEEN];
        private final boolean[] were = new boolean[MOST_SEEN];
        int count;

        void add(int first, int second, boolean wereSo) {
            if (count < MOST_SEEN) {
                one[count] = first;
                other[count] = second;
                were[count] = wereSo;
                count++;
            }
        }

        boolean agreesWith(Matchings all, int matching) {
            for (int row = 0; row < count; row++) {
                boolean areThere = one[row] < all.people && other[row] < all.people;
                if (areThere && (all.mate(matching, one[row]) == other[row]) != were[row]) {
                    return false;
                }
            }
            return true;
        }
    }

    /** The mean minutes of waiting at a corner, for each wait. */
    private static final class Waiting {
        /** Of waiting so many minutes at most: the mean is above / below, below a power of ten. */
        private final long[] above = new long[MOST_WAIT + 1];
        private final long[] below = new long[MOST_WAIT + 1];

        void reckon(int withSomebody, int pushing, int tenths) {
            above[0] = pushing;
            below[0] = 1;
            for (int wait = 1; wait <= MOST_WAIT; wait++) {
                // One minute goes by; then somebody is there, or what is left is a wait one shorter.
                below[wait] = 10 * below[wait - 1];
                long came = (long) tenths * withSomebody * below[wait - 1];
                above[wait] = below[wait] + came + (10 - tenths) * above[wait - 1];
            }
        }

        long inLeastTerms(int wait, boolean upper) {
            long most = greatestDivisor(above[wait], below[wait]);
            return (upper ? above[wait] : below[wait]) / most;
        }

        /** Of two that are not below 0; 1 at least. */
        private static long greatestDivisor(long one, long other) {
            long greater = one;
            long lesser = other;
            for (int step = 0; step < 100 && lesser != 0; step++) {
                long rest = greater % lesser;
                greater = lesser;
                lesser = rest;
            }
            return greater > 0 ? greater : 1;
        }

        int bestWait() {
            int best = 0;
            for (int wait = 1; wait <= MOST_WAIT; wait++) {
                // A mean is 107 at most and below is 10 to the 8th at most: the products fit a long.
                if (above[wait] * below[best] < above[best] * below[wait]) {
                    best = wait;
                }
            }
            return best;
        }
    }
}
