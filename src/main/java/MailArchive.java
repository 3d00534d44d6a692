import java.util.ArrayList;
import java.util.Arrays;

/** An archive of mail that is searched. What each call promises stands in ../shared/DOC.md. */
public final class MailArchive {
    public static final int NONE = -1;

    private static final int READY_BYTES = 20;
    private static final int MAIL_BYTES = 1200;
    private static final int MOST_THERE = 60;
    private static final int MOST_COME = 200;
    private static final int MOST_TAGS = 8;
    private static final int TAG_BYTES = 12;
    private static final int MOST_REFERENCES = 16;
    private static final int FIELDS = 4;

    private final Bytes ready = new Bytes(READY_BYTES);
    private final Bytes tape = new Bytes(MAIL_BYTES);
    private final Bytes given = new Bytes(MAIL_BYTES);
    private final Book words = new Book();
    private final Book ids = new Book();
    private final Book tags = new Book();
    private final ArrayList<Message> there = new ArrayList<Message>();
    private final Threads threads = new Threads(there, ids);
    private final Reader reader = new Reader(tape, words, ids);
    private final Seeker seeker = new Seeker(given, there, threads, words, ids, tags);
    private final int[] foundNumbers = new int[MOST_THERE];
    private final int[] foundDates = new int[MOST_THERE];
    private final int[] toldThreads = new int[MOST_THERE];
    private int foundCount;
    private int toldCount;
    private int came;
    private int refusal;

    public MailArchive() {
        makeReady(0, 0, 0, 0, 0);
    }

    public void feed(int a, int b, int c, int d, int e) {
        makeReady(a, b, c, d, e);
    }

    public int end(int n) {
        if (n < 0 || n > READY_BYTES || tape.size() + n > MAIL_BYTES) {
            return NONE;
        }
        tape.putAll(ready, 0, n);
        makeReady(0, 0, 0, 0, 0);
        return tape.size();
    }

    public int add() throws IllegalStateException {
        if (there.size() >= MOST_THERE || came >= MOST_COME) {
            throw new IllegalStateException("no more messages can come");
        }
        there.add(reader.read(came));
        tape.clear();
        threads.spoil();
        came++;
        return came - 1;
    }

    public void remove(int message) throws IndexOutOfBoundsException {
        int place = placeOf(message);
        if (place < 0 || place >= there.size()) {
            throw new IndexOutOfBoundsException("the message is not there");
        }
        there.remove(place);
        threads.spoil();
    }

    public boolean tag(int message, boolean on)
            throws IndexOutOfBoundsException, IllegalArgumentException, IllegalStateException {
        takeTape();
        int place = placeOf(message);
        if (place < 0 || place >= there.size()) {
            throw new IndexOutOfBoundsException("the message is not there");
        }
        if (!isTag(given)) {
            throw new IllegalArgumentException("it is no tag");
        }
        Message tagged = there.get(place);
        int name = tags.find(given, 0, given.size());
        if (tagged.hasTag(name) == on) {
            return false;
        }
        if (!on) {
            tagged.dropTag(name);
            return true;
        }
        if (tagged.tagCount >= MOST_TAGS) {
            throw new IllegalStateException("it has eight others");
        }
        tagged.putTag(tags.enter(given, 0, given.size()), tags);
        return true;
    }

    public int search() throws IllegalArgumentException {
        takeTape();
        long set = seeker.matches();
        refusal = seeker.refusedAt + 1;
        if (refusal > 0) {
            throw new IllegalArgumentException("it is no query");
        }
        keepFound(set);
        return foundCount;
    }

    public int fault() {
        return refusal;
    }

    public int found(int k) {
        return k >= 0 && k < foundCount && k < foundNumbers.length ? foundNumbers[k] : NONE;
    }

    public int conversations() {
        threads.freshen();
        toldCount = 0;
        for (int k = 0; k < foundCount && k < foundNumbers.length; k++) {
            int place = placeOf(foundNumbers[k]);
            if (place != NONE) {
                tellThread(threads.threadOf(place));
            }
        }
        return toldCount;
    }

    public int thread(int k) {
        return k >= 0 && k < toldCount && k < toldThreads.length ? toldThreads[k] : NONE;
    }

    public int about(int message, int what) {
        int place = placeOf(message);
        if (place < 0 || place >= there.size()) {
            return NONE;
        }
        if (what >= 0 && what <= 2) {
            threads.freshen();
        }
        Message told = there.get(place);
        switch (what) {
            case 0: return threads.threadOf(place);
            case 1: return threads.parentOf(place);
            case 2: return threads.depthOf(place);
            case 3: return told.date;
            case 4: return told.tagCount;
            case 5: return told.wordsIn(0);
            case 6: return told.wordsIn(1);
            case 7: return told.wordsIn(2);
            case 8: return told.wordsIn(3);
            case 9: return ids.sizeOf(told.id);
            case 10: return told.references.length;
            default: return NONE;
        }
    }

    public int at(int message, int field, int i, int k) {
        int place = placeOf(message);
        if (place < 0 || place >= there.size()) {
            return NONE;
        }
        Message told = there.get(place);
        switch (field) {
            case 0:
            case 1:
            case 2:
            case 3: return words.byteOf(told.wordAt(field, i), k);
            case 4: return tags.byteOf(told.tagAt(i), k);
            case 5: return i == 0 ? ids.byteOf(told.id, k) : NONE;
            case 6: return ids.byteOf(told.referenceAt(i), k);
            default: return NONE;
        }
    }

    public int count(int what) {
        switch (what) {
            case 0: return there.size();
            case 1: return came;
            case 2: return foundCount;
            case 3: return differentWords();
            case 4: return differentTags();
            case 5: return tape.size();
            default: return NONE;
        }
    }

    private void makeReady(int a, int b, int c, int d, int e) {
        ready.clear();
        ready.putNumber(a);
        ready.putNumber(b);
        ready.putNumber(c);
        ready.putNumber(d);
        ready.putNumber(e);
    }

    private void takeTape() {
        given.clear();
        given.putAll(tape, 0, tape.size());
        tape.clear();
    }

    private int placeOf(int message) {
        for (int place = 0; place < there.size(); place++) {
            if (there.get(place).number == message) {
                return place;
            }
        }
        return NONE;
    }

    private static boolean isTag(Bytes text) {
        for (int i = 0; i < text.size(); i++) {
            int b = text.byteAt(i);
            if (!Signs.isDigit(b) && !(b >= 'a' && b <= 'z')) {
                return false;
            }
        }
        return text.size() >= 1 && text.size() <= TAG_BYTES;
    }

    private void keepFound(long set) {
        foundCount = 0;
        // from the greatest number down, so that of one date the greatest stands first
        for (int place = there.size() - 1; place >= 0; place--) {
            if ((set >> place & 1L) != 0) {
                insertFound(there.get(place));
            }
        }
    }

    private void insertFound(Message match) {
        int k = foundCount;
        if (k >= foundNumbers.length || k >= foundDates.length) {
            return;
        }
        for (; k > 0 && foundDates[k - 1] < match.date; k--) {
            foundDates[k] = foundDates[k - 1];
            foundNumbers[k] = foundNumbers[k - 1];
        }
        foundDates[k] = match.date;
        foundNumbers[k] = match.number;
        foundCount++;
    }

    private void tellThread(int thread) {
        for (int k = 0; k < toldCount && k < toldThreads.length; k++) {
            if (toldThreads[k] == thread) {
                return;
            }
        }
        if (toldCount < toldThreads.length) {
            toldThreads[toldCount] = thread;
            toldCount++;
        }
    }

    private int differentWords() {
        int different = 0;
        words.startRound();
        for (int place = 0; place < there.size(); place++) {
            int[] row = there.get(place).words;
            for (int i = 0; i < row.length; i++) {
                different += words.isNewInRound(row[i]) ? 1 : 0;
            }
        }
        return different;
    }

    private int differentTags() {
        int different = 0;
        tags.startRound();
        for (int place = 0; place < there.size(); place++) {
            Message tagged = there.get(place);
            for (int i = 0; i < tagged.tagCount; i++) {
                different += tags.isNewInRound(tagged.tagAt(i)) ? 1 : 0;
            }
        }
        return different;
    }

    /** What a single byte is; NONE, the byte beyond an end, is nothing of all this. */
    private static final class Signs {
        static boolean isBlank(int b) {
            return b == ' ' || b == 9;
        }

        static boolean isDigit(int b) {
            return b >= '0' && b <= '9';
        }

        static boolean isLetter(int b) {
            return b >= 'a' && b <= 'z' || b >= 'A' && b <= 'Z';
        }

        static boolean isOfWord(int b) {
            return isLetter(b) || isDigit(b) || b >= 128;
        }

        static boolean isOfName(int b) {
            return isLetter(b) || isDigit(b) || b == '-';
        }

        static int small(int b) {
            return b >= 'A' && b <= 'Z' ? b + 32 : b;
        }

        static int hexDigit(int b) {
            if (b >= '0' && b <= '9') {
                return b - '0';
            }
            if (b >= 'A' && b <= 'F') {
                return b - 'A' + 10;
            }
            return b >= 'a' && b <= 'f' ? b - 'a' + 10 : NONE;
        }

        static int base64Digit(int b) {
            if (isLetter(b)) {
                return b <= 'Z' ? b - 'A' : b - 'a' + 26;
            }
            if (isDigit(b)) {
                return b - '0' + 52;
            }
            return b == '+' ? 62 : b == '/' ? 63 : NONE;
        }
    }

    /** A row of bytes up to a bound; a byte that is asked for beyond its end is NONE. */
    private static final class Bytes {
        private final byte[] row;
        private int length;

        Bytes(int most) {
            row = new byte[most > 0 ? most : 0];
        }

        int size() {
            return length;
        }

        int byteAt(int i) {
            return i >= 0 && i < length && i < row.length ? row[i] & 255 : NONE;
        }

        void clear() {
            length = 0;
        }

        void put(int b) {
            if (length >= 0 && length < row.length) {
                row[length] = (byte) b;
                length++;
            }
        }

        void putNumber(int number) {
            put(number >> 24);
            put(number >> 16);
            put(number >> 8);
            put(number);
        }

        void putAll(Bytes other, int from, int to) {
            for (int i = from; i < to; i++) {
                put(other.byteAt(i));
            }
        }

        void cutBlanksAtEnd() {
            while (length > 0 && Signs.isBlank(byteAt(length - 1))) {
                length--;
            }
        }

        /** Where [from, to) ends without the blanks at its end. */
        int blanksBack(int from, int to) {
            int stop = to;
            while (stop > from && Signs.isBlank(byteAt(stop - 1))) {
                stop--;
            }
            return stop;
        }

        int blanksOn(int from, int to) {
            int start = from;
            while (start < to && Signs.isBlank(byteAt(start))) {
                start++;
            }
            return start;
        }

        /** Where the first such byte in [from, to) is, or NONE. */
        int seek(int b, int from, int to) {
            for (int i = from; i < to; i++) {
                if (byteAt(i) == b) {
                    return i;
                }
            }
            return NONE;
        }

        /** Where the line that begins at from stops: at its byte 10, or at to. */
        int lineStop(int from, int to) {
            int stop = from;
            while (stop < to && byteAt(stop) != 10) {
                stop++;
            }
            return stop;
        }

        /** Where a line ends that stops there: a 13 ahead of its 10 is no part of it. */
        int lineEnd(int from, int stop, int to) {
            return stop < to && stop > from && byteAt(stop - 1) == 13 ? stop - 1 : stop;
        }

        /** Whether that text stands at a place, in letters great or small if they are alike. */
        boolean hasAt(int from, String text, boolean alike) {
            for (int i = 0; i < text.length(); i++) {
                int b = byteAt(from + i);
                if ((alike ? Signs.small(b) : b) != text.charAt(i)) {
                    return false;
                }
            }
            return true;
        }

        boolean is(int from, int to, String text, boolean alike) {
            return to - from == text.length() && hasAt(from, text, alike);
        }

        /** The number that [from, to) is, or NONE if it is not of digits alone, 1 to 9 of them. */
        int numberIn(int from, int to) {
            if (to - from < 1 || to - from > 9) {
                return NONE;
            }
            int number = 0;
            for (int i = from; i < to; i++) {
                if (!Signs.isDigit(byteAt(i))) {
                    return NONE;
                }
                number = number * 10 + byteAt(i) - '0';
            }
            return number;
        }

        /** Reads the next word at a place or behind it, as words are kept: where it stops. */
        int nextWord(int from, int to, Bytes word) {
            word.clear();
            int i = from;
            while (i < to && !Signs.isOfWord(byteAt(i))) {
                i++;
            }
            while (i < to && Signs.isOfWord(byteAt(i))) {
                word.put(Signs.small(byteAt(i)));
                i++;
            }
            return i;
        }
    }

    /** Rows of bytes, each kept once under a number, so that they are compared by their numbers. */
    private static final class Book {
        private static final int HEADS = 1024;

        // the heads hold a number and 1 more, so that the 0 of a new row is none
        private final int[] heads = new int[HEADS];
        private int[] nexts = new int[64];
        private int[] starts = new int[65];
        private int[] rounds = new int[64];
        private byte[] row = new byte[512];
        private int entries;
        private int round;

        int entryCount() {
            return entries;
        }

        int sizeOf(int number) {
            if (number < 0 || number >= entries || number + 1 >= starts.length) {
                return 0;
            }
            return starts[number + 1] - starts[number];
        }

        int byteOf(int number, int k) {
            if (k < 0 || k >= sizeOf(number) || number < 0 || number >= starts.length) {
                return NONE;
            }
            int i = starts[number] + k;
            return i >= 0 && i < row.length ? row[i] & 255 : NONE;
        }

        int find(Bytes text, int from, int to) {
            int slot = slotOf(text, from, to);
            int number = slot >= 0 && slot < heads.length ? heads[slot] - 1 : NONE;
            for (int turn = 0; turn < entries && number >= 0 && number < nexts.length; turn++) {
                if (sizeOf(number) == to - from && begins(number, text, from, to)) {
                    return number;
                }
                number = nexts[number];
            }
            return NONE;
        }

        int enter(Bytes text, int from, int to) {
            int number = find(text, from, to);
            if (number != NONE) {
                return number;
            }
            makeRoom(from, to);
            int slot = slotOf(text, from, to);
            if (slot < 0 || slot >= heads.length || entries + 1 >= starts.length || entries >= nexts.length) {
                return NONE;
            }
            int stop = starts[entries];
            for (int i = from; i < to && stop >= 0 && stop < row.length; i++) {
                row[stop] = (byte) text.byteAt(i);
                stop++;
            }
            nexts[entries] = heads[slot] - 1;
            heads[slot] = entries + 1;
            entries++;
            starts[entries] = stop;
            return entries - 1;
        }

        boolean begins(int number, Bytes text, int from, int to) {
            if (sizeOf(number) < to - from || number < 0 || number >= starts.length) {
                return false;
            }
            int start = starts[number] - from;
            for (int i = from; i < to; i++) {
                int k = start + i;
                if (k < 0 || k >= row.length || (row[k] & 255) != text.byteAt(i)) {
                    return false;
                }
            }
            return true;
        }

        /** Whether one stands ahead of the other in the order of their bytes. */
        boolean isAhead(int one, int other) {
            int most = Math.min(sizeOf(one), sizeOf(other));
            for (int k = 0; k < most; k++) {
                if (byteOf(one, k) != byteOf(other, k)) {
                    return byteOf(one, k) < byteOf(other, k);
                }
            }
            return sizeOf(one) < sizeOf(other);
        }

        void startRound() {
            round++;
        }

        boolean isNewInRound(int number) {
            if (number < 0 || number >= rounds.length || rounds[number] == round) {
                return false;
            }
            rounds[number] = round;
            return true;
        }

        private static int slotOf(Bytes text, int from, int to) {
            int sum = 0;
            for (int i = from; i < to; i++) {
                sum = sum * 31 + text.byteAt(i);
            }
            return (sum ^ sum >>> 10) & HEADS - 1;
        }

        private void makeRoom(int from, int to) {
            int bytes = row.length;
            if (to > from && entries < starts.length && starts[entries] + to - from > bytes) {
                row = Arrays.copyOf(row, bytes * 2 + to - from);
            }
            if (entries >= nexts.length) {
                int most = nexts.length * 2;
                nexts = Arrays.copyOf(nexts, most);
                rounds = Arrays.copyOf(rounds, most);
                starts = Arrays.copyOf(starts, most + 1);
            }
        }
    }

    /** A message that is there; its words, id, references and tags are numbers in books. */
    private static final class Message {
        private final int number;
        private final int[] words;
        private final int[] fieldStarts;
        private final int date;
        private final int id;
        private final int[] references;
        private final int[] tags = new int[MOST_TAGS];
        private int tagCount;

        Message(int number, int[] words, int[] fieldStarts, int date, int id, int[] references) {
            this.number = number;
            this.words = words;
            this.fieldStarts = fieldStarts;
            this.date = date;
            this.id = id;
            this.references = references;
        }

        int wordsIn(int field) {
            if (field < 0 || field + 1 >= fieldStarts.length) {
                return 0;
            }
            return fieldStarts[field + 1] - fieldStarts[field];
        }

        int wordAt(int field, int i) {
            if (i < 0 || i >= wordsIn(field) || field < 0 || field >= fieldStarts.length) {
                return NONE;
            }
            int k = fieldStarts[field] + i;
            return k >= 0 && k < words.length ? words[k] : NONE;
        }

        int referenceAt(int i) {
            return i >= 0 && i < references.length ? references[i] : NONE;
        }

        int tagAt(int i) {
            return i >= 0 && i < tagCount && i < tags.length ? tags[i] : NONE;
        }

        boolean hasTag(int name) {
            return name != NONE && tagPlace(name) < tagCount;
        }

        void putTag(int name, Book book) {
            if (tagCount >= tags.length) {
                return;
            }
            int i = tagCount;
            for (; i > 0 && book.isAhead(name, tags[i - 1]); i--) {
                tags[i] = tags[i - 1];
            }
            tags[i] = name;
            tagCount++;
        }

        void dropTag(int name) {
            int dropped = tagPlace(name);
            if (dropped >= tagCount) {
                return;
            }
            for (int i = dropped; i + 1 < tagCount && i + 1 < tags.length; i++) {
                tags[i] = tags[i + 1];
            }
            tagCount--;
        }

        private int tagPlace(int name) {
            for (int i = 0; i < tagCount && i < tags.length; i++) {
                if (tags[i] == name) {
                    return i;
                }
            }
            return tagCount;
        }
    }

    /** The header of a message or of a part that is a message in its turn: [from, to) of a mail. */
    private static final class Header {
        private static final int FROM = 0;
        private static final int SUBJECT = 2;
        private static final int DATE = 3;
        private static final int MESSAGE_ID = 4;
        private static final int REFERENCES = 5;
        private static final int IN_REPLY_TO = 6;
        private static final int CONTENT_TYPE = 7;
        private static final int CODING = 8;
        private static final int NAMES = 9;

        private final Bytes mail;
        private final int[] valueStarts = new int[NAMES];
        private final int[] valueStops = new int[NAMES];
        private int body;
        private int to;

        Header(Bytes mail) {
            this.mail = mail;
        }

        /** Reads the header of the message in [from, stop): from then on all calls are about this one. */
        void readLines(int from, int stop) {
            to = stop;
            Arrays.fill(valueStarts, 0);
            Arrays.fill(valueStops, 0);
            body = from;
            int name = NONE;
            boolean behindField = false;
            for (int turn = from; turn < to && body < to; turn++) {
                int lineStop = mail.lineStop(body, to);
                int lineEnd = mail.lineEnd(body, lineStop, to);
                int next = Math.min(lineStop + 1, to);
                int colon = colonOf(body, lineEnd);
                if (lineEnd == body) {
                    body = next;
                    return;
                }
                if (colon != NONE) {
                    name = nameOf(body, colon);
                    behindField = true;
                    startValue(name, colon + 1);
                } else if (!behindField || !Signs.isBlank(mail.byteAt(body))) {
                    return;
                }
                stopValue(name, lineEnd);
                body = next;
            }
        }

        /** Writes the value of a field: nothing if there is no such field. */
        void writeValue(int name, Bytes value) {
            value.clear();
            if (name < 0 || name >= NAMES) {
                return;
            }
            boolean atLineStart = true;
            for (int i = valueStarts[name]; i < valueStops[name]; i++) {
                int b = mail.byteAt(i);
                if (b == 10) {
                    atLineStart = true;
                    if (value.size() > 0) {
                        value.put(' ');
                    }
                } else if (!(b == 13 && mail.byteAt(i + 1) == 10)
                        && !(atLineStart && Signs.isBlank(b))) {
                    atLineStart = false;
                    value.put(b);
                }
            }
            value.cutBlanksAtEnd();
        }

        /** Where the : behind a field's name is, or NONE if the line is no field. */
        private int colonOf(int start, int end) {
            int i = start;
            while (i < end && Signs.isOfName(mail.byteAt(i))) {
                i++;
            }
            return i > start && i < end && mail.byteAt(i) == ':' ? i : NONE;
        }

        /** Which field is meant; NONE if it is read by nobody or has been there before. */
        private int nameOf(int start, int colon) {
            for (int name = 0; name < NAMES; name++) {
                String text = nameText(name);
                if (colon - start == text.length() && mail.hasAt(start, text, true)) {
                    return valueStarts[name] == 0 ? name : NONE;
                }
            }
            return NONE;
        }

        private void startValue(int name, int start) {
            if (name >= 0 && name < NAMES) {
                valueStarts[name] = start;
            }
        }

        private void stopValue(int name, int stop) {
            if (name >= 0 && name < NAMES) {
                valueStops[name] = stop;
            }
        }

        private static String nameText(int name) {
            switch (name) {
                case FROM: return "from";
                case 1: return "to";
                case SUBJECT: return "subject";
                case DATE: return "date";
                case MESSAGE_ID: return "message-id";
                case REFERENCES: return "references";
                case IN_REPLY_TO: return "in-reply-to";
                case CONTENT_TYPE: return "content-type";
                default: return "content-transfer-encoding";
            }
        }
    }

    /** The codings of bytes: each reads [from, to) and writes what it is behind what is there. */
    private static final class Codings {
        static void base64(Bytes text, int from, int to, Bytes out) {
            int bits = 0;
            int digits = 0;
            for (int i = from; i < to; i++) {
                int digit = Signs.base64Digit(text.byteAt(i));
                if (digit != NONE) {
                    bits = bits << 6 | digit;
                    digits++;
                }
                if (digits == 4) {
                    out.put(bits >> 16);
                    out.put(bits >> 8);
                    out.put(bits);
                    digits = 0;
                }
            }
            if (digits == 3) {
                out.put(bits >> 10);
                out.put(bits >> 2);
            } else if (digits == 2) {
                out.put(bits >> 4);
            }
        }

        static void quoted(Bytes text, int from, int to, Bytes out) {
            int start = from;
            for (int turn = from; turn < to && start < to; turn++) {
                int stop = text.lineStop(start, to);
                int end = text.blanksBack(start, text.lineEnd(start, stop, to));
                boolean joined = end > start && text.byteAt(end - 1) == '=';
                escaped(text, start, joined ? end - 1 : end, false, out);
                start = stop + 1;
                if (!joined && start < to) {
                    out.put(10);
                }
            }
        }

        static void encodedWords(Bytes text, Bytes out) {
            int i = 0;
            for (int turn = 0; turn < text.size() && i < text.size(); turn++) {
                int stop = encodedStop(text, i);
                if (stop == NONE) {
                    out.put(text.byteAt(i));
                    i++;
                } else {
                    encoded(text, i, stop, out);
                    int next = text.blanksOn(stop, text.size());
                    i = encodedStop(text, next) == NONE ? stop : next;
                }
            }
        }

        /** Where the one that begins there stops, or NONE if none begins there. */
        private static int encodedStop(Bytes text, int from) {
            int sign;
            if (text.hasAt(from, "=?utf-8?", true)) {
                sign = from + 8;
            } else if (text.hasAt(from, "=?us-ascii?", true)) {
                sign = from + 11;
            } else {
                return NONE;
            }
            int kind = Signs.small(text.byteAt(sign));
            if (kind != 'q' && kind != 'b' || text.byteAt(sign + 1) != '?') {
                return NONE;
            }
            int i = sign + 2;
            while (i < text.size() && text.byteAt(i) != '?' && !Signs.isBlank(text.byteAt(i))) {
                i++;
            }
            return text.hasAt(i, "?=", false) ? i + 2 : NONE;
        }

        private static void encoded(Bytes text, int from, int stop, Bytes out) {
            int sign = text.seek('?', from + 2, stop) + 1;
            if (Signs.small(text.byteAt(sign)) == 'b') {
                base64(text, sign + 2, stop - 2, out);
            } else {
                escaped(text, sign + 2, stop - 2, true, out);
            }
        }

        private static void escaped(Bytes text, int from, int to, boolean lowLineIsBlank, Bytes out) {
            for (int i = from; i < to; i++) {
                int b = text.byteAt(i);
                int high = i + 2 < to ? Signs.hexDigit(text.byteAt(i + 1)) : NONE;
                int low = i + 2 < to ? Signs.hexDigit(text.byteAt(i + 2)) : NONE;
                if (b == '=' && high != NONE && low != NONE) {
                    out.put(high << 4 | low);
                    i += 2;
                } else {
                    out.put(b == '_' && lowLineIsBlank ? ' ' : b);
                }
            }
        }
    }

    /** Days and minutes, counted from the beginning of 1970. */
    private static final class Dates {
        private static final int NO_DAY = -1000000;
        private static final int AHEAD_OF_ALL = -999999;
        private static final int BEHIND_ALL = 9999999;
        private static final int DAYS_TO_1970 = 719528;
        private static final int DAY_MINUTES = 1440;
        private static final int[] MONTH_DAYS = {31, 28, 31, 30, 31, 30, 31, 31, 30, 31, 30, 31};
        private static final String MONTHS = "janfebmaraprmayjunjulaugsepoctnovdec";

        /** The number of a day, or NO_DAY if it is not there. */
        static int dayNumber(int year, int month, int day) {
            if (year < 0 || year > 9999 || day < 1 || day > daysIn(year, month)) {
                return NO_DAY;
            }
            int leapDays = (year + 3) / 4 - (year + 99) / 100 + (year + 399) / 400;
            int number = year * 365 + leapDays + day - 1 - DAYS_TO_1970;
            for (int m = 1; m < month; m++) {
                number += daysIn(year, m);
            }
            return number;
        }

        /** The day that eight digits at a place tell, or NO_DAY. */
        static int dayAt(Bytes text, int from) {
            return dayNumber(text.numberIn(from, from + 4), text.numberIn(from + 4, from + 6),
                    text.numberIn(from + 6, from + 8));
        }

        /** The minutes that a Date tells, 0 if it tells none. */
        static int minutes(Bytes text) {
            int start = wordStart(text, 0);
            int stop = wordStop(text, start);
            if (isOfLetters(text, start, stop)) {
                start = wordStart(text, stop);
                stop = wordStop(text, start);
            }
            int day = stop - start <= 2 ? text.numberIn(start, stop) : NONE;
            start = wordStart(text, stop);
            stop = wordStop(text, start);
            int month = monthAt(text, start);
            start = wordStart(text, stop);
            stop = wordStop(text, start);
            int year = yearIn(text, start, stop);
            start = wordStart(text, stop);
            stop = wordStop(text, start);
            int time = timeIn(text, start, stop);
            start = wordStart(text, stop);
            stop = wordStop(text, start);
            int number = dayNumber(year, month, day);
            if (number == NO_DAY || time == NONE || year < 1970 || year > 2999) {
                return 0;
            }
            return number * DAY_MINUTES + time - zoneIn(text, start, stop);
        }

        private static int daysIn(int year, int month) {
            if (month < 1 || month > MONTH_DAYS.length) {
                return 0;
            }
            boolean leap = year % 4 == 0 && year % 100 != 0 || year % 400 == 0;
            return month == 2 && leap ? 29 : MONTH_DAYS[month - 1];
        }

        private static boolean isBetween(int b) {
            return Signs.isBlank(b) || b == ',';
        }

        private static int wordStart(Bytes text, int from) {
            int i = from;
            while (i < text.size() && isBetween(text.byteAt(i))) {
                i++;
            }
            return i;
        }

        private static int wordStop(Bytes text, int from) {
            int i = from;
            while (i < text.size() && !isBetween(text.byteAt(i))) {
                i++;
            }
            return i;
        }

        private static boolean isOfLetters(Bytes text, int start, int stop) {
            for (int i = start; i < stop; i++) {
                if (!Signs.isLetter(text.byteAt(i))) {
                    return false;
                }
            }
            return stop > start;
        }

        private static int monthAt(Bytes text, int start) {
            for (int month = 0; month < 12; month++) {
                if (isMonthAt(text, start, month * 3)) {
                    return month + 1;
                }
            }
            return NONE;
        }

        private static boolean isMonthAt(Bytes text, int start, int monthAt) {
            for (int i = 0; i < 3 && monthAt + i < MONTHS.length(); i++) {
                if (Signs.small(text.byteAt(start + i)) != MONTHS.charAt(monthAt + i)) {
                    return false;
                }
            }
            return true;
        }

        private static int yearIn(Bytes text, int start, int stop) {
            int year = text.numberIn(start, stop);
            if (stop - start == 4 || year == NONE) {
                return year;
            }
            if (stop - start != 2) {
                return NONE;
            }
            return year < 50 ? year + 2000 : year + 1900;
        }

        /** The minutes of hh:mm or hh:mm:ss, or NONE. */
        private static int timeIn(Bytes text, int start, int stop) {
            int size = stop - start;
            if (size != 5 && size != 8 || text.byteAt(start + 2) != ':') {
                return NONE;
            }
            if (size == 8 && (text.byteAt(start + 5) != ':'
                    || !isBelow(text.numberIn(start + 6, start + 8), 61))) {
                return NONE;
            }
            return hoursAndMinutes(text, start, start + 3);
        }

        private static int zoneIn(Bytes text, int start, int stop) {
            int sign = text.byteAt(start);
            if (stop - start != 5 || sign != '+' && sign != '-') {
                return 0;
            }
            int zone = hoursAndMinutes(text, start + 1, start + 3);
            if (zone == NONE) {
                return 0;
            }
            return sign == '+' ? zone : -zone;
        }

        private static int hoursAndMinutes(Bytes text, int hourAt, int minuteAt) {
            int hour = text.numberIn(hourAt, hourAt + 2);
            int minute = text.numberIn(minuteAt, minuteAt + 2);
            return isBelow(hour, 24) && isBelow(minute, 60) ? hour * 60 + minute : NONE;
        }

        private static boolean isBelow(int number, int bound) {
            return number >= 0 && number < bound;
        }
    }

    /** Reads a mail: what of it is searched comes into the books. */
    private static final class Reader {
        private static final int MOST_MESSAGES_IN_ONE_ANOTHER = 4;
        private static final int MOST_BODY_WORDS = 200;
        private static final int BOUNDARY_BYTES = 40;
        private static final int ID_BYTES = 60;
        private static final int WORD_BYTES = 16;
        // a part costs a line of three signs at least
        private static final int MOST_PARTS = 1 + MAIL_BYTES / 3;

        private final Bytes mail;
        private final Book words;
        private final Book ids;
        private final Header header;
        private final Bytes value = new Bytes(MAIL_BYTES);
        private final Bytes text = new Bytes(MAIL_BYTES);
        private final Bytes word = new Bytes(WORD_BYTES);
        private final Bytes boundary = new Bytes(BOUNDARY_BYTES + 1);
        private final int[] wordRow = new int[MAIL_BYTES];
        private final int[] referenceRow = new int[MOST_REFERENCES];
        private final int[] partStarts = new int[MOST_PARTS];
        private final int[] partStops = new int[MOST_PARTS];
        private final int[] partLevels = new int[MOST_PARTS];
        private int wordCount;
        private int partCount;

        Reader(Bytes mail, Book words, Book ids) {
            this.mail = mail;
            this.words = words;
            this.ids = ids;
            this.header = new Header(mail);
        }

        Message read(int number) {
            header.readLines(0, mail.size());
            int date = readDate();
            int id = readId();
            int[] references = readReferences();
            int[] fieldStarts = new int[FIELDS + 1];
            wordCount = 0;
            for (int name = Header.FROM; name <= Header.SUBJECT; name++) {
                header.writeValue(name, value);
                text.clear();
                Codings.encodedWords(value, text);
                takeWords(MAIL_BYTES);
                fieldStarts[name + 1] = wordCount;
            }
            writeText();
            takeWords(MOST_BODY_WORDS);
            fieldStarts[FIELDS] = wordCount;
            return new Message(number, firstOf(wordRow, wordCount), fieldStarts, date, id, references);
        }

        private void takeWords(int most) {
            int i = 0;
            for (int n = 0; n < most && wordCount < wordRow.length; n++) {
                i = text.nextWord(i, text.size(), word);
                if (word.size() == 0) {
                    return;
                }
                wordRow[wordCount] = words.enter(word, 0, word.size());
                wordCount++;
            }
        }

        /** Writes the TEXT: what parts wait are taken from the last one on. */
        private void writeText() {
            text.clear();
            partCount = 0;
            putPart(0, mail.size(), 1);
            for (int turn = 0; turn < MOST_PARTS && partCount > 0 && partCount <= MOST_PARTS; turn++) {
                partCount--;
                header.readLines(partStarts[partCount], partStops[partCount]);
                writePart(partLevels[partCount]);
                text.put(10);
            }
        }

        /** Lets a part wait, if there is one: ahead of the first boundary there is none. */
        private void putPart(int start, int stop, int level) {
            if (start != NONE && partCount >= 0 && partCount < MOST_PARTS && level <= MOST_MESSAGES_IN_ONE_ANOTHER) {
                partStarts[partCount] = Math.min(start, stop);
                partStops[partCount] = stop;
                partLevels[partCount] = level;
                partCount++;
            }
        }

        private void writePart(int level) {
            header.writeValue(Header.CONTENT_TYPE, value);
            int semicolon = value.seek(';', 0, value.size());
            int stop = semicolon == NONE ? value.size() : semicolon;
            if (value.size() == 0 || value.is(0, value.blanksBack(0, stop), "text/plain", true)) {
                writePlain();
            } else if (stop >= 10 && value.hasAt(0, "multipart/", true)) {
                readBoundary(stop);
                if (boundary.size() >= 1 && boundary.size() <= BOUNDARY_BYTES) {
                    int first = partCount;
                    putParts(level + 1);
                    turnParts(first);
                }
            }
        }

        private void writePlain() {
            header.writeValue(Header.CODING, value);
            if (value.is(0, value.size(), "quoted-printable", true)) {
                Codings.quoted(mail, header.body, header.to, text);
            } else if (value.is(0, value.size(), "base64", true)) {
                Codings.base64(mail, header.body, header.to, text);
            } else {
                text.putAll(mail, header.body, header.to);
            }
        }

        private void putParts(int level) {
            int partStart = NONE;
            int start = header.body;
            for (int turn = start; turn < header.to && start < header.to; turn++) {
                int stop = mail.lineStop(start, header.to);
                int behind = behindBoundary(start);
                if (behind != NONE) {
                    int end = mail.blanksBack(behind, mail.lineEnd(start, stop, header.to));
                    boolean ends = mail.is(behind, end, "--", false);
                    if (ends || behind == end) {
                        putPart(partStart, start, level);
                        partStart = stop + 1;
                    }
                    if (ends) {
                        return;
                    }
                }
                start = stop + 1;
            }
            putPart(partStart, header.to, level);
        }

        private void turnParts(int first) {
            int high = partCount - 1;
            for (int low = first; low >= 0 && low < high && high < MOST_PARTS; low++) {
                // those of one message are of one level
                int start = partStarts[low];
                int stop = partStops[low];
                partStarts[low] = partStarts[high];
                partStops[low] = partStops[high];
                partStarts[high] = start;
                partStops[high] = stop;
                high--;
            }
        }

        /** Where -- and the boundary stop that begin there, or NONE. */
        private int behindBoundary(int start) {
            if (!mail.hasAt(start, "--", false)) {
                return NONE;
            }
            for (int i = 0; i < boundary.size(); i++) {
                if (mail.byteAt(start + 2 + i) != boundary.byteAt(i)) {
                    return NONE;
                }
            }
            return start + 2 + boundary.size();
        }

        /** Looks through the parameters, from the first ; on. */
        private void readBoundary(int firstSemicolon) {
            boundary.clear();
            int start = firstSemicolon + 1;
            for (int turn = 0; turn < value.size() && start < value.size(); turn++) {
                int next = value.seek(';', start, value.size());
                int stop = next == NONE ? value.size() : next;
                int from = value.blanksOn(start, stop);
                if (from + 9 <= stop && value.hasAt(from, "boundary=", true)) {
                    takeBoundary(from + 9, value.blanksBack(from + 9, stop));
                    return;
                }
                start = stop + 1;
            }
        }

        private void takeBoundary(int from, int to) {
            boolean inSigns = to - from >= 2 && value.byteAt(from) == '"' && value.byteAt(to - 1) == '"';
            if (inSigns) {
                boundary.putAll(value, from + 1, to - 1);
            } else {
                boundary.putAll(value, from, to);
            }
        }

        private int readDate() {
            header.writeValue(Header.DATE, value);
            return Dates.minutes(value);
        }

        private int readId() {
            header.writeValue(Header.MESSAGE_ID, value);
            int open = value.seek('<', 0, value.size());
            int close = open == NONE ? NONE : value.seek('>', open, value.size());
            return isId(open, close) ? ids.enter(value, open + 1, close) : NONE;
        }

        private int[] readReferences() {
            header.writeValue(Header.REFERENCES, value);
            int n = takeReferences(MOST_REFERENCES);
            if (n == 0) {
                header.writeValue(Header.IN_REPLY_TO, value);
                n = takeReferences(1);
            }
            return firstOf(referenceRow, n);
        }

        private int takeReferences(int most) {
            int n = 0;
            int i = 0;
            for (int turn = 0; turn < value.size() && n < most && n < referenceRow.length; turn++) {
                int open = value.seek('<', i, value.size());
                int close = open == NONE ? NONE : value.seek('>', open, value.size());
                if (close == NONE) {
                    return n;
                }
                if (isId(open, close)) {
                    referenceRow[n] = ids.enter(value, open + 1, close);
                    n++;
                }
                i = close + 1;
            }
            return n;
        }

        private static int[] firstOf(int[] row, int n) {
            return Arrays.copyOf(row, n >= 0 && n <= row.length ? n : 0);
        }

        private boolean isId(int open, int close) {
            if (open == NONE || close == NONE || close - open < 2 || close - open > ID_BYTES + 1) {
                return false;
            }
            for (int i = open + 1; i < close; i++) {
                if (Signs.isBlank(value.byteAt(i))) {
                    return false;
                }
            }
            return true;
        }
    }

    /** The nodes of ids and messages, and what hangs under what; made anew when asked for after a change. */
    private static final class Threads {
        private static final int NODES = MOST_COME * (1 + MOST_REFERENCES) + MOST_THERE;

        private final ArrayList<Message> there;
        private final Book ids;
        private final int[] aboves = new int[NODES];
        private final int[] holders = new int[NODES];
        private final int[] leasts = new int[NODES];
        private final int[] nodes = new int[MOST_THERE];
        private boolean fresh;

        Threads(ArrayList<Message> there, Book ids) {
            this.there = there;
            this.ids = ids;
        }

        void spoil() {
            fresh = false;
        }

        void freshen() {
            if (fresh) {
                return;
            }
            for (int node = 0; node < NODES && node < ids.entryCount() + MOST_THERE; node++) {
                aboves[node] = NONE;
                holders[node] = NONE;
                leasts[node] = NONE;
            }
            for (int place = 0; place < there.size() && place < MOST_THERE; place++) {
                nodes[place] = nodeOf(there.get(place), place);
                hangMessage(there.get(place), nodes[place]);
            }
            for (int place = 0; place < there.size() && place < MOST_THERE; place++) {
                int root = rootOf(nodes[place]);
                // messages come in order of their numbers: the first one at a root is its least
                if (isNode(root) && leasts[root] == NONE) {
                    leasts[root] = there.get(place).number;
                }
            }
            fresh = true;
        }

        int threadOf(int place) {
            int root = rootOf(nodeAt(place));
            return isNode(root) ? leasts[root] : NONE;
        }

        int parentOf(int place) {
            int node = aboveOf(nodeAt(place));
            for (int turn = 0; turn < NODES && isNode(node); turn++) {
                if (holders[node] != NONE) {
                    return holders[node];
                }
                node = aboveOf(node);
            }
            return NONE;
        }

        int depthOf(int place) {
            int depth = 0;
            int node = aboveOf(nodeAt(place));
            for (int turn = 0; turn < NODES && isNode(node); turn++) {
                depth += holders[node] != NONE ? 1 : 0;
                node = aboveOf(node);
            }
            return depth;
        }

        private int nodeOf(Message message, int place) {
            int node = message.id;
            if (!isNode(node) || holders[node] != NONE) {
                node = ids.entryCount() + place;
            }
            if (isNode(node)) {
                holders[node] = message.number;
            }
            return node;
        }

        private void hangMessage(Message message, int node) {
            int last = NONE;
            for (int i = 0; i < message.references.length; i++) {
                int reference = message.references[i];
                if (last != NONE && aboveOf(reference) == NONE) {
                    hang(reference, last);
                }
                last = reference;
            }
            if (last != NONE) {
                hang(node, last);
            }
        }

        private void hang(int node, int over) {
            int above = over;
            for (int turn = 0; turn < NODES && isNode(above); turn++) {
                if (above == node) {
                    return;
                }
                above = aboveOf(above);
            }
            if (isNode(node)) {
                aboves[node] = over;
            }
        }

        private int rootOf(int node) {
            int root = node;
            for (int turn = 0; turn < NODES && aboveOf(root) != NONE; turn++) {
                root = aboveOf(root);
            }
            return root;
        }

        private int nodeAt(int place) {
            return place >= 0 && place < MOST_THERE ? nodes[place] : NONE;
        }

        private int aboveOf(int node) {
            return isNode(node) ? aboves[node] : NONE;
        }

        private static boolean isNode(int node) {
            return node >= 0 && node < NODES;
        }
    }

    /** Goes through a query from sign to sign. */
    private static final class Lexer {
        private static final int END = 0;
        private static final int OPEN = 1;
        private static final int CLOSE = 2;
        private static final int OR = 3;
        private static final int AND = 4;
        private static final int NOT = 5;
        private static final int TERM = 6;
        private static final int WRONG = 7;

        private static final int BODY = 3;
        private static final int TAG = 4;
        private static final int ID = 5;
        private static final int THREAD = 6;
        private static final int DATE = 7;
        private static final int NO_FIELD = 8;

        private final Bytes query;
        private int place;
        private int behind;
        private int field;
        private int from;
        private int to;
        private boolean inSigns;
        private int firstDay;
        private int lastDay;

        Lexer(Bytes query) {
            this.query = query;
        }

        void restart() {
            behind = 0;
        }

        /** Reads the next sign: which kind it is; place tells where. */
        int next() {
            place = query.blanksOn(behind, query.size());
            int b = query.byteAt(place);
            behind = place + 1;
            field = NO_FIELD;
            inSigns = false;
            switch (b) {
                case NONE: return END;
                case '(': return OPEN;
                case ')': return CLOSE;
                case '"': return readPhrase(place);
                default: return readWord();
            }
        }

        private int readPhrase(int open) {
            int close = query.seek('"', open + 1, query.size());
            if (close == NONE) {
                return WRONG;
            }
            inSigns = true;
            from = open + 1;
            to = close;
            behind = close + 1;
            return TERM;
        }

        private int readWord() {
            to = wordStop();
            behind = to;
            if (query.is(place, to, "or", false)) {
                return OR;
            }
            if (query.is(place, to, "and", false)) {
                return AND;
            }
            if (query.is(place, to, "not", false)) {
                return NOT;
            }
            readField();
            if (field <= BODY && from == to && query.byteAt(to) == '"') {
                return readPhrase(to);
            }
            boolean complete = from < to;
            if (field == THREAD) {
                complete = query.numberIn(from, to) != NONE;
            } else if (field == DATE) {
                complete = readDays();
            }
            return complete ? TERM : WRONG;
        }

        private int wordStop() {
            int i = place;
            while (i < query.size() && !isSign(query.byteAt(i))) {
                i++;
            }
            return i;
        }

        private static boolean isSign(int b) {
            return Signs.isBlank(b) || b == '(' || b == ')' || b == '"';
        }

        private void readField() {
            from = place;
            for (int f = 0; f < NO_FIELD; f++) {
                String name = fieldText(f);
                if (query.hasAt(place, name, false)) {
                    field = f;
                    from = place + name.length();
                    return;
                }
            }
        }

        private boolean readDays() {
            boolean isOpenAhead = to - from == 10 && query.hasAt(from, "..", false);
            boolean isOpenBehind = to - from == 10 && !isOpenAhead && query.hasAt(from + 8, "..", false);
            boolean isClosed = to - from == 18 && query.hasAt(from + 8, "..", false);
            if (!isOpenAhead && !isOpenBehind && !isClosed) {
                return false;
            }
            firstDay = isOpenAhead ? Dates.AHEAD_OF_ALL : Dates.dayAt(query, from);
            lastDay = isOpenBehind ? Dates.BEHIND_ALL : Dates.dayAt(query, to - 8);
            return firstDay != Dates.NO_DAY && lastDay != Dates.NO_DAY;
        }

        private static String fieldText(int field) {
            switch (field) {
                case 0: return "from:";
                case 1: return "to:";
                case 2: return "subject:";
                case BODY: return "body:";
                case TAG: return "tag:";
                case ID: return "id:";
                case THREAD: return "thread:";
                default: return "date:";
            }
        }
    }

    /** Answers a query by sets: a bit for each place among the messages that are there. */
    private static final class Seeker {
        private static final int MOST_IN_ONE_ANOTHER = 20;

        private final Bytes query;
        private final ArrayList<Message> there;
        private final Threads threads;
        private final Book words;
        private final Book ids;
        private final Book tags;
        private final Lexer lexer;
        private final long[] anys = new long[MOST_IN_ONE_ANOTHER + 1];
        private final long[] alls = new long[MOST_IN_ONE_ANOTHER + 1];
        private final boolean[] turned = new boolean[MOST_IN_ONE_ANOTHER + 1];
        private final int[] phrase = new int[MAIL_BYTES];
        private final Bytes word = new Bytes(Reader.WORD_BYTES);
        private int phraseCount;
        private boolean onlyBegins;
        private int level;
        private long everything;
        private int refusedAt;

        Seeker(Bytes query, ArrayList<Message> there, Threads threads, Book words, Book ids, Book tags) {
            this.query = query;
            this.there = there;
            this.threads = threads;
            this.words = words;
            this.ids = ids;
            this.tags = tags;
            this.lexer = new Lexer(query);
        }

        /** The messages that match; refusedAt is then NONE, or the place that can't be. */
        long matches() {
            everything = (1L << there.size()) - 1;
            refusedAt = NONE;
            lexer.restart();
            startLevel(0);
            // one is wanted behind a sign that asks for it; an empty query asks for none
            boolean wanted = false;
            for (int turn = 0; turn <= query.size(); turn++) {
                int kind = lexer.next();
                if (!canStand(kind, wanted, turn == 0)) {
                    refusedAt = lexer.place;
                    return 0;
                }
                if (kind == Lexer.END) {
                    break;
                }
                if (kind == Lexer.TERM) {
                    join(termSet());
                } else {
                    take(kind);
                }
                wanted = kind != Lexer.TERM && kind != Lexer.CLOSE;
            }
            return anys[0] | alls[0];
        }

        private boolean canStand(int kind, boolean wanted, boolean first) {
            switch (kind) {
                case Lexer.END: return !wanted && level == 0;
                case Lexer.OPEN: return level < MOST_IN_ONE_ANOTHER;
                case Lexer.CLOSE: return !wanted && level > 0;
                case Lexer.OR:
                case Lexer.AND: return !wanted && !first;
                case Lexer.WRONG: return false;
                default: return true;
            }
        }

        private void take(int kind) {
            switch (kind) {
                case Lexer.OPEN:
                    startLevel(level + 1);
                    break;
                case Lexer.CLOSE:
                    long inner = levelSet();
                    level--;
                    join(inner);
                    break;
                case Lexer.OR:
                    startNextAll();
                    break;
                case Lexer.NOT:
                    turn();
                    break;
                default:
                    break;
            }
        }

        private boolean isLevel() {
            return level >= 0 && level < anys.length && level < alls.length && level < turned.length;
        }

        private void startLevel(int next) {
            level = next;
            if (isLevel()) {
                anys[level] = 0;
                alls[level] = everything;
                turned[level] = false;
            }
        }

        private long levelSet() {
            return isLevel() ? anys[level] | alls[level] : 0;
        }

        private void startNextAll() {
            if (isLevel()) {
                anys[level] |= alls[level];
                alls[level] = everything;
            }
        }

        private void turn() {
            if (isLevel()) {
                turned[level] = !turned[level];
            }
        }

        private void join(long set) {
            if (isLevel()) {
                alls[level] &= turned[level] ? everything & ~set : set;
                turned[level] = false;
            }
        }

        private long termSet() {
            int wanted = NONE;
            switch (lexer.field) {
                case Lexer.TAG: wanted = tags.find(query, lexer.from, lexer.to); break;
                case Lexer.ID: wanted = ids.find(query, lexer.from, lexer.to); break;
                case Lexer.THREAD:
                    wanted = query.numberIn(lexer.from, lexer.to);
                    threads.freshen();
                    break;
                case Lexer.DATE: break;
                default: readPhrase(); break;
            }
            long set = 0;
            for (int place = 0; place < there.size(); place++) {
                if (isMatch(there.get(place), place, wanted)) {
                    set |= 1L << place;
                }
            }
            return set;
        }

        private boolean isMatch(Message message, int place, int wanted) {
            switch (lexer.field) {
                case Lexer.TAG: return message.hasTag(wanted);
                case Lexer.ID: return wanted != NONE && message.id == wanted;
                case Lexer.THREAD: return threads.threadOf(place) == wanted;
                case Lexer.DATE: return isInDays(message.date);
                case Lexer.NO_FIELD: return hasPhrase(message, 2) || hasPhrase(message, 3);
                default: return hasPhrase(message, lexer.field);
            }
        }

        private boolean isInDays(int date) {
            int day = Math.floorDiv(date, Dates.DAY_MINUTES);
            return date != 0 && day >= lexer.firstDay && day <= lexer.lastDay;
        }

        /** The last word stays in the row of its bytes, for the messages' words that only begin so. */
        private void readPhrase() {
            onlyBegins = !lexer.inSigns && query.byteAt(lexer.to - 1) == '*';
            phraseCount = 0;
            int last = lexer.to;
            while (last > lexer.from && !Signs.isOfWord(query.byteAt(last - 1))) {
                last--;
            }
            int i = lexer.from;
            for (int turn = 0; turn < phrase.length && i < last; turn++) {
                i = query.nextWord(i, last, word);
                phrase[turn] = words.find(word, 0, word.size());
                phraseCount++;
            }
        }

        private boolean hasPhrase(Message message, int field) {
            if (phraseCount == 0) {
                return true;
            }
            for (int i = 0; i + phraseCount <= message.wordsIn(field); i++) {
                if (standsAt(message, field, i)) {
                    return true;
                }
            }
            return false;
        }

        private boolean standsAt(Message message, int field, int i) {
            for (int k = 0; k < phraseCount && k < phrase.length; k++) {
                int own = message.wordAt(field, i + k);
                boolean begins = onlyBegins && k == phraseCount - 1;
                if (begins ? !words.begins(own, word, 0, word.size()) : own != phrase[k]) {
                    return false;
                }
            }
            return true;
        }
    }
}
