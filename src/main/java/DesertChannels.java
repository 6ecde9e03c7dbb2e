import java.util.NoSuchElementException;

public final class DesertChannels {
    public static final int NONE = -1;

    private static final int CHANNELS_MOST = 8;
    private static final int WELLS_MOST = 20;
    private static final int WELLS_LEAST = 2;
    private static final int PLACE_MOST = 100;
    private static final int FLOOR_MOST = 1000;
    private static final int HEAD_MOST = 2000;
    private static final int SLOPE_MOST = 20;
    private static final int DRAW_MOST = 30;
    private static final int DRAW_GROWS = 5;
    private static final int SEEP_PARTS = 10;
    private static final int SEEP_MOST = 50;
    private static final int FALL_MOST = 20;
    private static final int YEARS_MOST = 100;

    private static final int SHARES_MOST = 60;
    private static final int OWNER_MOST = 30;
    private static final int DAYS_MOST = 15;
    private static final int DAY = 1440;
    private static final int HEIRS_LEAST = 2;
    private static final int HEIRS_MOST = 4;
    private static final int PART_MOST = 100;
    private static final int LET_MOST = 100000000;
    private static final int MINUTES_MOST = 100000;

    private static final int TAPE_MOST = 400;
    private static final int FEED_BYTES = 20;
    private static final int LAW_DISTANCE = 0;
    private static final int LAW_DEPTH = 1;
    private static final int LAW_HEADS = 2;
    private static final int LAW_FREE = 3;
    private static final int LAW_SIZE = 4;
    private static final int DIGITS_MOST = 4;
    private static final int COSTS_MOST = 1000000;
    private static final int HUNDRED = 100;

    private static final int FIELDS_MOST = 9;
    private static final int FIELD_MINUTES_MOST = 1000;
    private static final int FIELD_DUE_MOST = 10000;
    private static final int FIELD_LOSS_MOST = 100;
    private static final int LOSS_UNKNOWN = 1000000000;

    private final LawReader reader;
    private final Tape tape;
    private final int[] lawNow;
    private int wrongByte;

    private final Channel[] channels;
    private int channelCount;
    private int dugCount;
    private int head;
    private int slope;
    private int year;

    private final Share[] shares;
    private int shareCount;
    private int now;
    private final Heirs heirRow;
    private final int[] weights;

    private final Fields fields;

    public DesertChannels() {
        reader = new LawReader();
        tape = reader.tape;
        lawNow = new int[LAW_SIZE];
        wrongByte = NONE;
        channels = new Channel[CHANNELS_MOST];
        for (int i = 0; i < CHANNELS_MOST; i++) {
            channels[i] = new Channel();
        }
        head = 500;
        slope = 2;
        shares = new Share[SHARES_MOST];
        for (int i = 0; i < SHARES_MOST; i++) {
            shares[i] = new Share();
        }
        heirRow = new Heirs();
        weights = new int[OWNER_MOST + 1];
        fields = new Fields();
    }

    public int feed(int a, int b, int c, int d, int e) {
        if (tape.length + FEED_BYTES > TAPE_MOST) {
            return NONE;
        }
        tape.append(a);
        tape.append(b);
        tape.append(c);
        tape.append(d);
        tape.append(e);
        return tape.length;
    }

    public boolean end(int n) {
        if (n < 0 || n > tape.length) {
            return false;
        }
        tape.length = n;
        return true;
    }

    public void ground(int head, int slope) throws IllegalArgumentException {
        if (!isWithin(head, 0, HEAD_MOST) || !isWithin(slope, 0, SLOPE_MOST)) {
            throw new IllegalArgumentException("head or slope is none");
        }
        this.head = head;
        this.slope = slope;
    }

    public int channel() throws UnsupportedOperationException {
        if (channelCount >= CHANNELS_MOST) {
            throw new UnsupportedOperationException("there are 8 channels");
        }
        channelCount++;
        return channelCount - 1;
    }

    public int well(int channel, int x, int y, int floor)
            throws IndexOutOfBoundsException, IllegalStateException, IllegalArgumentException,
            UnsupportedOperationException {
        Channel own = undugAt(channel);
        if (!isWithin(x, 0, PLACE_MOST) || !isWithin(y, 0, PLACE_MOST)
                || !isWithin(floor, own.lastFloor(), FLOOR_MOST)) {
            throw new IllegalArgumentException("place or floor is none");
        }
        if (own.wells >= WELLS_MOST) {
            throw new UnsupportedOperationException("the channel has 20 wells");
        }
        own.addWell(x, y, floor);
        return own.wells - 1;
    }

    public boolean may(int channel) throws IndexOutOfBoundsException, IllegalStateException {
        return isAllowed(undugAt(channel));
    }

    public int dig(int channel, int owner, int days)
            throws IndexOutOfBoundsException, IllegalStateException, IllegalArgumentException {
        Channel own = undugAt(channel);
        if (!isOwner(owner) || !isWithin(days, 1, DAYS_MOST)) {
            throw new IllegalArgumentException("owner or days are none");
        }
        if (shareCount >= SHARES_MOST || !isAllowed(own)) {
            return NONE;
        }
        own.turn = days * DAY;
        own.dugYear = year;
        own.dugOrder = dugCount;
        dugCount++;
        addShare(channel, 0, own.turn, owner);
        return shareCount - 1;
    }

    public int years(int n) throws IllegalArgumentException {
        if (!isWithin(n, 0, YEARS_MOST)) {
            throw new IllegalArgumentException("years are none");
        }
        year += n;
        return year;
    }

    public boolean collapse(int channel, int well, boolean is)
            throws IndexOutOfBoundsException, IllegalStateException {
        Channel own = dugWithWell(channel, well);
        boolean was = own.collapsed[well];
        own.collapsed[well] = is;
        return was != is;
    }

    public int flow(int channel) throws IndexOutOfBoundsException, IllegalStateException {
        return flowOf(dugAt(channel), dugCount);
    }

    public int harm(int channel) throws IndexOutOfBoundsException, IllegalStateException {
        Channel own = dugAt(channel);
        return flowOf(own, own.dugOrder) - flowOf(own, dugCount);
    }

    public int seep(int channel, int well) throws IndexOutOfBoundsException, IllegalStateException {
        Channel own = dugWithWell(channel, well);
        return well < own.runningWells() ? seepAt(own, well, dugCount) : 0;
    }

    public void sell(int share, int from, int to, int owner)
            throws IndexOutOfBoundsException, IllegalStateException, IllegalArgumentException,
            UnsupportedOperationException {
        Share part = unletAt(share);
        if (!isOwner(owner) || from < part.from || from >= to || to > part.to) {
            throw new IllegalArgumentException("owner or part is none");
        }
        boolean ahead = from > part.from;
        boolean behind = to < part.to;
        if (shareCount + (ahead ? 1 : 0) + (behind ? 1 : 0) > SHARES_MOST) {
            throw new UnsupportedOperationException("more than 60 shares");
        }
        if (ahead) {
            addShare(part.channel, part.from, from, part.owner);
        }
        if (behind) {
            addShare(part.channel, to, part.to, part.owner);
        }
        part.become(part.channel, from, to, owner);
    }

    public int heirs(int share, int many, int a, int pa, int b, int pb, int c, int pc, int d, int pd)
            throws IndexOutOfBoundsException, IllegalStateException, IllegalArgumentException,
            UnsupportedOperationException {
        Share left = unletAt(share);
        heirRow.name(0, a, pa);
        heirRow.name(1, b, pb);
        heirRow.name(2, c, pc);
        heirRow.name(3, d, pd);
        if (!isWithin(many, HEIRS_LEAST, HEIRS_MOST) || !heirRow.firstStand(many)) {
            throw new IllegalArgumentException("many, an owner or a part is none");
        }
        int pieces = heirRow.partLength(left.to - left.from, many);
        if (shareCount + pieces - 1 > SHARES_MOST) {
            throw new UnsupportedOperationException("more than 60 shares");
        }
        leaveTo(left, many);
        return pieces;
    }

    public void let(int share, int to, int fromMinute, int toMinute)
            throws IndexOutOfBoundsException, IllegalStateException, IllegalArgumentException {
        Share lent = unletAt(share);
        if (!isOwner(to) || to == lent.owner || fromMinute < now || fromMinute >= toMinute
                || toMinute > LET_MOST) {
            throw new IllegalArgumentException("the other one or the time is none");
        }
        lent.tenant = to;
        lent.letFrom = fromMinute;
        lent.letTo = toMinute;
    }

    public int minutes(int n) throws IllegalArgumentException {
        if (!isWithin(n, 0, MINUTES_MOST)) {
            throw new IllegalArgumentException("minutes are none");
        }
        now += n;
        return now;
    }

    public int holder(int channel, int minute) throws IndexOutOfBoundsException, IllegalArgumentException {
        Channel own = channelAt(channel);
        if (minute < 0) {
            throw new IllegalArgumentException("the minute is below 0");
        }
        if (own.turn <= 0) {
            return NONE;
        }
        int place = minute % own.turn;
        for (int i = 0; i < shareCount; i++) {
            Share one = shares[i];
            if (one.channel == channel && one.from <= place && place < one.to) {
                return one.heldBy(minute);
            }
        }
        return NONE;
    }

    public int share(int share, int what) throws IndexOutOfBoundsException, NoSuchElementException {
        Share one = shareAt(share);
        switch (what) {
            case 0:
                return one.channel;
            case 1:
                return one.from;
            case 2:
                return one.to;
            case 3:
                return one.owner;
            case 4:
                return one.isLetFrom(now) ? 1 : 0;
            default:
                throw new NoSuchElementException("a share has no such thing");
        }
    }

    public int law() throws IllegalArgumentException {
        int terms = reader.readTerms(lawNow);
        tape.length = 0;
        if (terms == NONE) {
            wrongByte = reader.begin;
            throw new IllegalArgumentException("the text is wrong");
        }
        wrongByte = NONE;
        System.arraycopy(reader.draft, 0, lawNow, 0, LAW_SIZE);
        return terms;
    }

    public int fault() {
        return wrongByte;
    }

    public int says(int what) throws NoSuchElementException {
        if (what < 0 || what >= LAW_SIZE) {
            throw new NoSuchElementException("the law has no such thing");
        }
        return lawNow[what];
    }

    public int pays(int channel, int owner, int costs)
            throws IndexOutOfBoundsException, IllegalStateException, IllegalArgumentException {
        dugAt(channel);
        if (!isOwner(owner) || !isWithin(costs, 0, COSTS_MOST)) {
            throw new IllegalArgumentException("owner or costs are none");
        }
        weighOwners(channel);
        return paidBy(owner, costs - partOf(costs, lawNow[LAW_FREE], HUNDRED));
    }

    public int field(int minutes, int due, int loss) throws IllegalArgumentException {
        if (!isWithin(minutes, 1, FIELD_MINUTES_MOST) || !isWithin(due, 0, FIELD_DUE_MOST)
                || !isWithin(loss, 0, FIELD_LOSS_MOST)) {
            throw new IllegalArgumentException("a number of the field is none");
        }
        if (fields.many >= FIELDS_MOST) {
            return NONE;
        }
        fields.addField(minutes, due, loss);
        return fields.many;
    }

    public int least() {
        int loss = fields.leastLoss();
        fields.many = 0;
        return loss;
    }

    public int count(int what) {
        switch (what) {
            case 0:
                return channelCount;
            case 1:
                return dugCount;
            case 2:
                return year;
            case 3:
                return now;
            case 4:
                return shareCount;
            case 5:
                return letShares();
            case 6:
                return fields.many;
            case 7:
                return flowOfAll();
            default:
                return NONE;
        }
    }

    private static boolean isWithin(int n, int least, int most) {
        return n >= least && n <= most;
    }

    private static boolean isOwner(int n) {
        return isWithin(n, 0, OWNER_MOST);
    }

    private static int kingSteps(int x, int y, int otherX, int otherY) {
        return Math.max(Math.abs(x - otherX), Math.abs(y - otherY));
    }

    /** long inside, for costs times the minutes of a turn go beyond int. */
    private static int partOf(int whole, int part, int parts) {
        return parts <= 0 ? 0 : (int) ((long) whole * part / parts);
    }

    private Channel channelAt(int n) {
        if (n < 0 || n >= channelCount) {
            throw new IndexOutOfBoundsException("there is no such channel");
        }
        return channels[n];
    }

    private Channel undugAt(int n) {
        Channel one = channelAt(n);
        if (one.isDug()) {
            throw new IllegalStateException("the channel is dug");
        }
        return one;
    }

    private Channel dugAt(int n) {
        Channel one = channelAt(n);
        if (!one.isDug()) {
            throw new IllegalStateException("the channel is not dug");
        }
        return one;
    }

    /** The well is looked at ahead of the digging: a missing one is told first. */
    private Channel dugWithWell(int n, int well) {
        Channel one = channelAt(n);
        if (well < 0 || well >= one.wells) {
            throw new IndexOutOfBoundsException("there is no such well");
        }
        if (!one.isDug()) {
            throw new IllegalStateException("the channel is not dug");
        }
        return one;
    }

    private Share shareAt(int n) {
        if (n < 0 || n >= shareCount) {
            throw new IndexOutOfBoundsException("there is no such share");
        }
        return shares[n];
    }

    private Share unletAt(int n) {
        Share one = shareAt(n);
        if (one.isLetFrom(now)) {
            throw new IllegalStateException("the share is let");
        }
        return one;
    }

    private boolean isAllowed(Channel planned) {
        if (planned.wells < WELLS_LEAST) {
            return false;
        }
        for (int i = 0; i < channelCount; i++) {
            Channel old = channels[i];
            if (old.isDug() && !isClearOf(planned, old)) {
                return false;
            }
        }
        return true;
    }

    private boolean isClearOf(Channel planned, Channel old) {
        for (int w = 0; w < planned.wells; w++) {
            for (int v = 0; v < old.wells; v++) {
                int steps = kingSteps(planned.x[w], planned.y[w], old.x[v], old.y[v]);
                if (steps < lawNow[LAW_DISTANCE]
                        && planned.floor[w] - old.floor[v] < lawNow[LAW_DEPTH]) {
                    return false;
                }
            }
        }
        return true;
    }

    private int drawAt(Channel one, int x, int y) {
        int running = one.runningWells();
        int draw = 0;
        for (int w = 0; w < running; w++) {
            draw = Math.max(draw, DRAW_MOST - kingSteps(x, y, one.x[w], one.y[w]));
        }
        int age = year - one.dugYear;
        return age < DRAW_GROWS ? draw * age / DRAW_GROWS : draw;
    }

    /** Channels that were dug behind lastOrder are left out, for harm asks what would be without them. */
    private int seepAt(Channel own, int well, int lastOrder) {
        int table = head + slope * own.x[well];
        for (int i = 0; i < channelCount; i++) {
            Channel other = channels[i];
            if (other != own && other.isDug() && other.dugOrder <= lastOrder) {
                table -= drawAt(other, own.x[well], own.y[well]);
            }
        }
        return Math.max(0, Math.min(SEEP_MOST, (table - own.floor[well]) / SEEP_PARTS));
    }

    private int flowOf(Channel own, int lastOrder) {
        int water = 0;
        for (int w = own.runningWells() - 1; w >= 0; w--) {
            water += seepAt(own, w, lastOrder);
            if (own.leaksBelow(w)) {
                water -= (water + HUNDRED - 1) / HUNDRED;
            }
        }
        return water;
    }

    private int flowOfAll() {
        int water = 0;
        for (int i = 0; i < channelCount; i++) {
            if (channels[i].isDug()) {
                water += flowOf(channels[i], dugCount);
            }
        }
        return water;
    }

    private void addShare(int channel, int from, int to, int owner) {
        if (shareCount < SHARES_MOST) {
            shares[shareCount].become(channel, from, to, owner);
            shareCount++;
        }
    }

    private void leaveTo(Share left, int many) {
        int channel = left.channel;
        int from = left.from;
        boolean isKept = false;
        for (int i = 0; i < many && i < HEIRS_MOST; i++) {
            int to = from + heirRow.length[i];
            if (to > from && isKept) {
                addShare(channel, from, to, heirRow.owner[i]);
            } else if (to > from) {
                left.become(channel, from, to, heirRow.owner[i]);
                isKept = true;
            }
            from = to;
        }
    }

    private int letShares() {
        int let = 0;
        for (int i = 0; i < shareCount; i++) {
            if (shares[i].isLetFrom(now)) {
                let++;
            }
        }
        return let;
    }

    private void weighOwners(int channel) {
        for (int i = 0; i <= OWNER_MOST; i++) {
            weights[i] = 0;
        }
        boolean byHeads = lawNow[LAW_HEADS] == 1;
        for (int i = 0; i < shareCount; i++) {
            Share one = shares[i];
            if (one.channel == channel) {
                weights[one.owner] = byHeads ? 1 : weights[one.owner] + one.to - one.from;
            }
        }
    }

    private int paidBy(int owner, int rest) {
        int sum = 0;
        for (int i = 0; i <= OWNER_MOST; i++) {
            sum += weights[i];
        }
        int leftOver = rest;
        int payersAhead = 0;
        for (int i = 0; i <= OWNER_MOST; i++) {
            leftOver -= partOf(rest, weights[i], sum);
            if (i < owner && weights[i] > 0) {
                payersAhead++;
            }
        }
        if (weights[owner] == 0) {
            return 0;
        }
        return partOf(rest, weights[owner], sum) + (payersAhead < leftOver ? 1 : 0);
    }

    private static final class Tape {
        final int[] bytes = new int[TAPE_MOST];
        int length;

        void append(int number) {
            for (int shift = 24; shift >= 0 && length < TAPE_MOST; shift -= 8) {
                bytes[length] = (number >>> shift) & 255;
                length++;
            }
        }
    }

    /** Reads a law from the tape thing by thing; begin is where the thing looked at begins. */
    private static final class LawReader {
        final Tape tape = new Tape();
        final int[] draft = new int[LAW_SIZE];
        int begin;
        private int behind;

        /** How many terms there are; NONE, with begin at the first wrong byte, if the text is wrong. */
        int readTerms(int[] lawNow) {
            System.arraycopy(lawNow, 0, draft, 0, LAW_SIZE);
            behind = 0;
            for (int terms = 1; terms <= TAPE_MOST; terms++) {
                if (!isTerm()) {
                    return NONE;
                }
                takeThing();
                if (begin >= tape.length) {
                    return terms;
                }
                if (tape.bytes[begin] != ';') {
                    return NONE;
                }
            }
            return NONE;
        }

        private boolean isTerm() {
            takeThing();
            if (isWord("distance")) {
                return isNumber(LAW_DISTANCE, PLACE_MOST);
            }
            if (isWord("depth")) {
                return isNumber(LAW_DEPTH, FLOOR_MOST);
            }
            if (isWord("free")) {
                return isNumber(LAW_FREE, HUNDRED);
            }
            return isWord("repair") && isPayment();
        }

        private boolean isPayment() {
            takeThing();
            boolean byHeads = isWord("heads");
            if (!byHeads && !isWord("hours")) {
                return false;
            }
            draft[LAW_HEADS] = byHeads ? 1 : 0;
            return true;
        }

        private boolean isNumber(int what, int most) {
            takeThing();
            if (begin >= tape.length || !isDigit(tape.bytes[begin]) || behind - begin > DIGITS_MOST) {
                return false;
            }
            int number = 0;
            for (int i = begin; i < behind; i++) {
                number = number * 10 + tape.bytes[i] - '0';
            }
            if (number > most) {
                return false;
            }
            draft[what] = number;
            return true;
        }

        private boolean isWord(String word) {
            if (behind - begin != word.length()) {
                return false;
            }
            for (int i = 0; i < word.length(); i++) {
                if (tape.bytes[begin + i] != word.charAt(i)) {
                    return false;
                }
            }
            return true;
        }

        /** A word and a number go on as far as they can; any other byte is a thing by itself. */
        private void takeThing() {
            begin = behind;
            while (begin < tape.length && tape.bytes[begin] == ' ') {
                begin++;
            }
            behind = begin;
            while (behind < tape.length && isLetter(tape.bytes[behind])) {
                behind++;
            }
            if (behind > begin) {
                return;
            }
            while (behind < tape.length && isDigit(tape.bytes[behind])) {
                behind++;
            }
            if (behind == begin && begin < tape.length) {
                behind++;
            }
        }

        private static boolean isLetter(int sign) {
            return isWithin(sign, 'a', 'z');
        }

        private static boolean isDigit(int sign) {
            return isWithin(sign, '0', '9');
        }
    }

    private static final class Channel {
        final int[] x = new int[WELLS_MOST];
        final int[] y = new int[WELLS_MOST];
        final int[] floor = new int[WELLS_MOST];
        final boolean[] collapsed = new boolean[WELLS_MOST];
        int wells;
        int turn;
        int dugYear;
        int dugOrder;

        /** A turn has a day at least, so that none has been dug whose turn has no minutes. */
        boolean isDug() {
            return turn > 0;
        }

        int lastFloor() {
            return wells > 0 ? floor[wells - 1] : 0;
        }

        void addWell(int atX, int atY, int atFloor) {
            if (wells < WELLS_MOST) {
                x[wells] = atX;
                y[wells] = atY;
                floor[wells] = atFloor;
                wells++;
            }
        }

        int runningWells() {
            for (int w = 0; w < wells; w++) {
                if (collapsed[w]) {
                    return w;
                }
            }
            return wells;
        }

        boolean leaksBelow(int well) {
            if (well < 1 || well >= wells) {
                return false;
            }
            int fall = floor[well] - floor[well - 1];
            return fall == 0 || fall > FALL_MOST;
        }
    }

    private static final class Share {
        int channel;
        int from;
        int to;
        int owner;
        int tenant;
        int letFrom;
        int letTo;

        void become(int ofChannel, int begin, int behind, int one) {
            channel = ofChannel;
            from = begin;
            to = behind;
            owner = one;
            tenant = NONE;
            letFrom = 0;
            letTo = 0;
        }

        boolean isLetFrom(int now) {
            return letTo > now;
        }

        int heldBy(int minute) {
            return letFrom <= minute && minute < letTo ? tenant : owner;
        }
    }

    private static final class Heirs {
        final int[] owner = new int[HEIRS_MOST];
        final int[] length = new int[HEIRS_MOST];
        private final int[] part = new int[HEIRS_MOST];

        void name(int place, int one, int itsPart) {
            if (isWithin(place, 0, HEIRS_MOST - 1)) {
                owner[place] = one;
                part[place] = itsPart;
            }
        }

        boolean firstStand(int many) {
            for (int i = 0; i < many && i < HEIRS_MOST; i++) {
                if (!isOwner(owner[i]) || !isWithin(part[i], 1, PART_MOST)) {
                    return false;
                }
            }
            return true;
        }

        /** Fills length: how many pieces have minutes. */
        int partLength(int whole, int many) {
            int parts = 0;
            for (int i = 0; i < many && i < HEIRS_MOST; i++) {
                parts += part[i];
            }
            int leftOver = whole;
            for (int i = 0; i < many && i < HEIRS_MOST; i++) {
                length[i] = partOf(whole, part[i], parts);
                leftOver -= length[i];
            }
            int pieces = 0;
            for (int i = 0; i < many && i < HEIRS_MOST; i++) {
                length[i] += i < leftOver ? 1 : 0;
                pieces += length[i] > 0 ? 1 : 0;
            }
            return pieces;
        }
    }

    private static final class Fields {
        private final int[] minutes = new int[FIELDS_MOST];
        private final int[] due = new int[FIELDS_MOST];
        private final int[] loss = new int[FIELDS_MOST];
        private final int[] best = new int[1 << FIELDS_MOST];
        int many;

        void addField(int itsMinutes, int itsDue, int itsLoss) {
            if (many < FIELDS_MOST) {
                minutes[many] = itsMinutes;
                due[many] = itsDue;
                loss[many] = itsLoss;
                many++;
            }
        }

        /** When a set of fields is done does not hang on its order: the best of a set is built from smaller sets. */
        int leastLoss() {
            int sets = 1 << many;
            best[0] = 0;
            for (int set = 1; set < sets; set++) {
                int done = minutesOf(set);
                best[set] = LOSS_UNKNOWN;
                for (int last = 0; last < many; last++) {
                    if ((set >> last & 1) == 1) {
                        int lost = loss[last] * Math.max(0, done - due[last]);
                        best[set] = Math.min(best[set], best[set ^ 1 << last] + lost);
                    }
                }
            }
            return best[sets - 1];
        }

        private int minutesOf(int set) {
            int sum = 0;
            for (int i = 0; i < many; i++) {
                sum += (set >> i & 1) == 1 ? minutes[i] : 0;
            }
            return sum;
        }
    }
}
