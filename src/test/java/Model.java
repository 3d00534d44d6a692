import java.nio.charset.StandardCharsets;
import java.time.LocalDate;
import java.util.ArrayList;
import java.util.Base64;
import java.util.HashMap;
import java.util.HashSet;
import java.util.LinkedHashSet;
import java.util.List;
import java.util.Locale;
import java.util.Map;
import java.util.Set;
import java.util.TreeMap;
import java.util.TreeSet;
import java.util.regex.Matcher;
import java.util.regex.Pattern;

/**
 * The document once more, told with the Java library and by other ways than the class:
 * ModelTest holds the two against each other. Refusals answer Desk's numbers.
 */
final class Model {
    static final class Mail {
        int number;
        int date;
        String id;
        List<List<String>> fields = new ArrayList<>();
        List<String> references = new ArrayList<>();
        TreeSet<String> tags = new TreeSet<>();
    }

    private static final class Node {
        Node above;
        Mail mail;
    }

    private static final class Refused extends Exception {
        final int place;

        Refused(int place) {
            this.place = place;
        }
    }

    private final TreeMap<Integer, Mail> there = new TreeMap<>();
    private List<Integer> found = new ArrayList<>();
    private List<Integer> told = new ArrayList<>();
    private Map<Mail, Node> nodes = new HashMap<>();
    private String tape = "";
    private String ready = "\0".repeat(20);
    private int came;
    private int fault;

    void feed(int... five) {
        StringBuilder all = new StringBuilder();
        for (int number : five) {
            for (int shift = 24; shift >= 0; shift -= 8) {
                all.append((char) (number >>> shift & 255));
            }
        }
        ready = all.toString();
    }

    int end(int n) {
        if (n < 0 || n > 20 || tape.length() + n > 1200) {
            return -1;
        }
        tape += ready.substring(0, n);
        ready = "\0".repeat(20);
        return tape.length();
    }

    int add() {
        if (there.size() == 60 || came == 200) {
            return Desk.REFUSED_STATE;
        }
        there.put(came, read(tape, came));
        tape = "";
        return came++;
    }

    int remove(int message) {
        return there.remove(message) == null ? Desk.REFUSED_INDEX : 0;
    }

    int tag(int message, boolean on) {
        String tag = tape;
        tape = "";
        Mail mail = there.get(message);
        if (mail == null) {
            return Desk.REFUSED_INDEX;
        }
        if (!tag.matches("[a-z0-9]{1,12}")) {
            return Desk.REFUSED_ARGUMENT;
        }
        if (on && !mail.tags.contains(tag) && mail.tags.size() == 8) {
            return Desk.REFUSED_STATE;
        }
        return (on ? mail.tags.add(tag) : mail.tags.remove(tag)) ? 1 : 0;
    }

    int search() {
        String query = tape;
        tape = "";
        try {
            Set<Mail> set = answer(query);
            List<Mail> order = new ArrayList<>(set);
            order.sort((a, b) -> a.date != b.date ? Integer.compare(b.date, a.date) : b.number - a.number);
            found = new ArrayList<>();
            for (Mail mail : order) {
                found.add(mail.number);
            }
            fault = 0;
            return found.size();
        } catch (Refused refused) {
            fault = refused.place + 1;
            return Desk.REFUSED_ARGUMENT;
        }
    }

    int fault() {
        return fault;
    }

    int found(int k) {
        return k >= 0 && k < found.size() ? found.get(k) : -1;
    }

    int conversations() {
        hangTogether();
        LinkedHashSet<Integer> threads = new LinkedHashSet<>();
        for (int number : found) {
            if (there.containsKey(number)) {
                threads.add(thread(there.get(number)));
            }
        }
        told = new ArrayList<>(threads);
        return told.size();
    }

    int thread(int k) {
        return k >= 0 && k < told.size() ? told.get(k) : -1;
    }

    int about(int message, int what) {
        Mail mail = there.get(message);
        if (mail == null || what < 0 || what > 10) {
            return -1;
        }
        hangTogether();
        List<Mail> aboves = new ArrayList<>();
        for (Node node = nodes.get(mail).above; node != null; node = node.above) {
            if (node.mail != null) {
                aboves.add(node.mail);
            }
        }
        if (what >= 5 && what <= 8) {
            return mail.fields.get(what - 5).size();
        }
        return switch (what) {
            case 0 -> thread(mail);
            case 1 -> aboves.isEmpty() ? -1 : aboves.get(0).number;
            case 2 -> aboves.size();
            case 3 -> mail.date;
            case 4 -> mail.tags.size();
            case 9 -> mail.id == null ? 0 : mail.id.length();
            default -> mail.references.size();
        };
    }

    int at(int message, int field, int i, int k) {
        Mail mail = there.get(message);
        if (mail == null || field < 0 || field > 6) {
            return -1;
        }
        List<String> row;
        if (field < 4) {
            row = mail.fields.get(field);
        } else if (field == 4) {
            row = new ArrayList<>(mail.tags);
        } else if (field == 5) {
            row = mail.id == null ? List.of() : List.of(mail.id);
        } else {
            row = mail.references;
        }
        return i < 0 || i >= row.size() || k < 0 || k >= row.get(i).length() ? -1 : row.get(i).charAt(k);
    }

    int count(int what) {
        Set<String> different = new HashSet<>();
        for (Mail mail : there.values()) {
            if (what == 3) {
                mail.fields.forEach(different::addAll);
            } else {
                different.addAll(mail.tags);
            }
        }
        return switch (what) {
            case 0 -> there.size();
            case 1 -> came;
            case 2 -> found.size();
            case 3, 4 -> different.size();
            case 5 -> tape.length();
            default -> -1;
        };
    }

    // ---- mails

    private static Mail read(String bytes, int number) {
        Mail mail = new Mail();
        mail.number = number;
        List<String> lines = lines(bytes);
        Map<String, String> header = new HashMap<>();
        header(lines, header);
        for (String name : List.of("from", "to", "subject")) {
            mail.fields.add(words(decode(header.getOrDefault(name, ""))));
        }
        List<String> body = words(text(lines, 1));
        mail.fields.add(body.subList(0, Math.min(200, body.size())));
        mail.date = date(header.getOrDefault("date", ""));
        Matcher id = Pattern.compile("^[^<]*<([^>]*)>", Pattern.DOTALL).matcher(header.getOrDefault("message-id", ""));
        if (id.find() && id.group(1).matches("(?s)[^ \\t]{1,60}")) {
            mail.id = id.group(1);
        }
        mail.references = ids(header.getOrDefault("references", ""));
        if (mail.references.isEmpty()) {
            List<String> replies = ids(header.getOrDefault("in-reply-to", ""));
            mail.references = replies.subList(0, Math.min(1, replies.size()));
        }
        mail.references = mail.references.subList(0, Math.min(16, mail.references.size()));
        return mail;
    }

    private static List<String> ids(String value) {
        List<String> all = new ArrayList<>();
        Matcher matcher = Pattern.compile("<([^>]*)>").matcher(value);
        while (matcher.find()) {
            if (matcher.group(1).matches("(?s)[^ \\t]{1,60}")) {
                all.add(matcher.group(1));
            }
        }
        return all;
    }

    private static List<String> lines(String bytes) {
        List<String> all = new ArrayList<>();
        String rest = bytes;
        while (!rest.isEmpty()) {
            int stop = rest.indexOf('\n');
            if (stop < 0) {
                all.add(rest);
                break;
            }
            String line = rest.substring(0, stop);
            all.add(line.endsWith("\r") ? line.substring(0, line.length() - 1) : line);
            rest = rest.substring(stop + 1);
        }
        return all;
    }

    /** Reads the header's fields: the number of the body's first line. */
    private static int header(List<String> lines, Map<String, String> fields) {
        List<String[]> all = new ArrayList<>();
        int i = 0;
        for (; i < lines.size(); i++) {
            String line = lines.get(i);
            Matcher matcher = Pattern.compile("(?s)([A-Za-z0-9-]+):(.*)").matcher(line);
            if (matcher.matches()) {
                all.add(new String[] {matcher.group(1).toLowerCase(Locale.ROOT), matcher.group(2)});
            } else if (!all.isEmpty() && line.matches("(?s)[ \\t].*")) {
                all.get(all.size() - 1)[1] += " " + line.replaceFirst("^[ \\t]+", "");
            } else {
                break;
            }
        }
        for (String[] field : all) {
            fields.putIfAbsent(field[0], trim(field[1]));
        }
        return i < lines.size() && lines.get(i).isEmpty() ? i + 1 : i;
    }

    private static String trim(String text) {
        return trimEnd(text).replaceFirst("^[ \\t]+", "");
    }

    private static String trimEnd(String text) {
        int stop = text.length();
        while (stop > 0 && (text.charAt(stop - 1) == ' ' || text.charAt(stop - 1) == '\t')) {
            stop--;
        }
        return text.substring(0, stop);
    }

    private static String text(List<String> lines, int level) {
        if (level == 5) {
            return "";
        }
        Map<String, String> header = new HashMap<>();
        List<String> body = lines.subList(header(lines, header), lines.size());
        String type = header.getOrDefault("content-type", "");
        if (type.isEmpty()) {
            type = "text/plain";
        }
        String[] pieces = type.split(";", -1);
        String content = small(trimEnd(pieces[0]));
        if (content.equals("text/plain")) {
            String coding = small(header.getOrDefault("content-transfer-encoding", ""));
            if (coding.equals("quoted-printable")) {
                return quoted(body);
            }
            return coding.equals("base64") ? base64(String.join("\n", body)) : String.join("\n", body);
        }
        String boundary = boundary(pieces);
        if (!content.startsWith("multipart/") || boundary.isEmpty() || boundary.length() > 40) {
            return "";
        }
        StringBuilder all = new StringBuilder();
        Pattern mark = Pattern.compile("(?s)" + Pattern.quote("--" + boundary) + "(--)?[ \\t]*");
        List<String> part = null;
        for (String line : body) {
            Matcher matcher = mark.matcher(line);
            if (matcher.matches()) {
                if (part != null) {
                    all.append(text(part, level + 1)).append('\n');
                }
                part = new ArrayList<>();
                if (matcher.group(1) != null) {
                    part = null;
                    break;
                }
            } else if (part != null) {
                part.add(line);
            }
        }
        if (part != null) {
            all.append(text(part, level + 1)).append('\n');
        }
        return all.toString();
    }

    private static String small(String text) {
        StringBuilder all = new StringBuilder();
        for (char c : text.toCharArray()) {
            all.append(c >= 'A' && c <= 'Z' ? (char) (c + 32) : c);
        }
        return all.toString();
    }

    private static String boundary(String[] pieces) {
        for (int i = 1; i < pieces.length; i++) {
            String piece = trim(pieces[i]);
            int sign = piece.indexOf('=');
            if (sign >= 0 && small(piece.substring(0, sign)).equals("boundary")) {
                String value = piece.substring(sign + 1);
                boolean inSigns = value.length() >= 2 && value.startsWith("\"") && value.endsWith("\"");
                return inSigns ? value.substring(1, value.length() - 1) : value;
            }
        }
        return "";
    }

    private static String quoted(List<String> body) {
        StringBuilder all = new StringBuilder();
        for (int i = 0; i < body.size(); i++) {
            String line = trimEnd(body.get(i));
            boolean joined = line.endsWith("=");
            all.append(escaped(joined ? line.substring(0, line.length() - 1) : line));
            if (!joined && i + 1 < body.size()) {
                all.append('\n');
            }
        }
        return all.toString();
    }

    private static String escaped(String text) {
        Matcher matcher = Pattern.compile("=([0-9A-Fa-f]{2})").matcher(text);
        StringBuilder all = new StringBuilder();
        int from = 0;
        while (matcher.find()) {
            all.append(text, from, matcher.start()).append((char) Integer.parseInt(matcher.group(1), 16));
            from = matcher.end();
        }
        return all.append(text.substring(from)).toString();
    }

    private static String base64(String text) {
        String digits = text.replaceAll("[^A-Za-z0-9+/]", "");
        if (digits.length() % 4 == 1) {
            digits = digits.substring(0, digits.length() - 1);
        }
        return new String(Base64.getDecoder().decode(digits), StandardCharsets.ISO_8859_1);
    }

    private static String decode(String value) {
        String one = "=\\?(?i:utf-8|us-ascii)\\?([QqBb])\\?([^ \\t?]*)\\?=";
        Matcher matcher = Pattern.compile(one).matcher(value);
        StringBuilder all = new StringBuilder();
        int from = 0;
        boolean behindOne = false;
        while (matcher.find()) {
            String between = value.substring(from, matcher.start());
            if (!behindOne || !between.matches("[ \\t]*")) {
                all.append(between);
            }
            String text = matcher.group(2);
            boolean q = matcher.group(1).equalsIgnoreCase("q");
            all.append(q ? escaped(text.replace('_', ' ')) : base64(text));
            from = matcher.end();
            behindOne = true;
        }
        return all.append(value.substring(from)).toString();
    }

    private static List<String> words(String text) {
        List<String> all = new ArrayList<>();
        Matcher matcher = Pattern.compile("[A-Za-z0-9\\x80-\\xff]+").matcher(text);
        while (matcher.find()) {
            String word = small(matcher.group());
            all.add(word.substring(0, Math.min(16, word.length())));
        }
        return all;
    }

    private static int date(String value) {
        Matcher matcher = Pattern.compile("(?s)[ \\t,]*(?:[A-Za-z]+[ \\t,]+)?(\\d{1,2})[ \\t,]+"
                + "(?i:(jan|feb|mar|apr|may|jun|jul|aug|sep|oct|nov|dec))[^ \\t,]*[ \\t,]+(\\d{4}|\\d{2})[ \\t,]+"
                + "([01]\\d|2[0-3]):([0-5]\\d)(?::(?:[0-5]\\d|60))?(?:[ \\t,]+([^ \\t,]+).*|[ \\t,]*)").matcher(value);
        if (!matcher.matches()) {
            return 0;
        }
        int year = Integer.parseInt(matcher.group(3));
        if (matcher.group(3).length() == 2) {
            year += year < 50 ? 2000 : 1900;
        }
        int month = "janfebmaraprmayjunjulaugsepoctnovdec".indexOf(small(matcher.group(2))) / 3 + 1;
        Integer day = day(year, month, Integer.parseInt(matcher.group(1)));
        if (day == null || year < 1970 || year > 2999) {
            return 0;
        }
        int minutes = day * 1440 + Integer.parseInt(matcher.group(4)) * 60 + Integer.parseInt(matcher.group(5));
        String zone = matcher.group(6);
        if (zone != null && zone.matches("[+-]([01]\\d|2[0-3])[0-5]\\d")) {
            int off = Integer.parseInt(zone.substring(1, 3)) * 60 + Integer.parseInt(zone.substring(3));
            minutes -= zone.startsWith("+") ? off : -off;
        }
        return minutes;
    }

    private static Integer day(int year, int month, int day) {
        try {
            return (int) LocalDate.of(year, month, day).toEpochDay();
        } catch (java.time.DateTimeException e) {
            return null;
        }
    }

    // ---- threads

    private void hangTogether() {
        nodes = new HashMap<>();
        Map<String, Node> byId = new HashMap<>();
        for (Mail mail : there.values()) {
            Node node = mail.id == null ? new Node() : byId.computeIfAbsent(mail.id, id -> new Node());
            if (node.mail != null) {
                node = new Node();
            }
            node.mail = mail;
            nodes.put(mail, node);
            Node before = null;
            for (String id : mail.references) {
                Node reference = byId.computeIfAbsent(id, x -> new Node());
                if (before != null && reference.above == null && !isUnder(before, reference)) {
                    reference.above = before;
                }
                before = reference;
            }
            if (before != null && !isUnder(before, node)) {
                node.above = before;
            }
        }
    }

    private static boolean isUnder(Node node, Node over) {
        return node != null && (node == over || isUnder(node.above, over));
    }

    private static Node root(Node node) {
        return node.above == null ? node : root(node.above);
    }

    private int thread(Mail mail) {
        for (Mail other : there.values()) {
            if (root(nodes.get(other)) == root(nodes.get(mail))) {
                return other.number;
            }
        }
        throw new IllegalStateException();
    }

    // ---- queries

    private record Token(int place, String text) { }

    private static final Pattern TOKEN = Pattern.compile(
            "(?s)[()]|(?:(?:from|to|subject|body):)?\"[^\"]*\"|[^ \\t()\"]+|\"");

    private List<Token> tokens;
    private int next;
    private int queryLength;

    private Set<Mail> answer(String query) throws Refused {
        tokens = new ArrayList<>();
        next = 0;
        queryLength = query.length();
        Matcher matcher = TOKEN.matcher(query);
        while (matcher.find()) {
            tokens.add(new Token(matcher.start(), matcher.group()));
        }
        if (tokens.isEmpty()) {
            return new HashSet<>(there.values());
        }
        hangTogether();
        Set<Mail> set = any(0);
        if (next < tokens.size()) {
            throw new Refused(tokens.get(next).place);
        }
        return set;
    }

    private boolean isNext(String sign) {
        return next < tokens.size() && tokens.get(next).text.equals(sign);
    }

    private Set<Mail> any(int depth) throws Refused {
        Set<Mail> set = all(depth);
        while (isNext("or")) {
            next++;
            set.addAll(all(depth));
        }
        return set;
    }

    private Set<Mail> all(int depth) throws Refused {
        Set<Mail> set = one(depth);
        while (next < tokens.size() && !isNext("or") && !isNext(")")) {
            if (isNext("and")) {
                next++;
            }
            set.retainAll(one(depth));
        }
        return set;
    }

    private Set<Mail> one(int depth) throws Refused {
        if (next == tokens.size()) {
            throw new Refused(queryLength);
        }
        Token token = tokens.get(next);
        next++;
        if (token.text.equals("not")) {
            Set<Mail> set = new HashSet<>(there.values());
            set.removeAll(one(depth));
            return set;
        }
        if (token.text.equals("(")) {
            if (depth == 20) {
                throw new Refused(token.place);
            }
            Set<Mail> set = any(depth + 1);
            if (!isNext(")")) {
                throw new Refused(next < tokens.size() ? tokens.get(next).place : queryLength);
            }
            next++;
            return set;
        }
        if (Set.of(")", "and", "or", "\"").contains(token.text)) {
            throw new Refused(token.place);
        }
        return term(token);
    }

    private Set<Mail> term(Token token) throws Refused {
        Matcher matcher = Pattern.compile("(?s)(from|to|subject|body|tag|id|thread|date):(.*)").matcher(token.text);
        String field = matcher.matches() ? matcher.group(1) : "";
        String what = matcher.matches() ? matcher.group(2) : token.text;
        if (what.isEmpty() || field.equals("thread") && !what.matches("\\d{1,9}")) {
            throw new Refused(token.place);
        }
        int[] days = field.equals("date") ? days(what, token.place) : null;
        Set<Mail> set = new HashSet<>();
        for (Mail mail : there.values()) {
            boolean matches = switch (field) {
                case "tag" -> mail.tags.contains(what);
                case "id" -> what.equals(mail.id);
                case "thread" -> thread(mail) == Integer.parseInt(what);
                case "date" -> mail.date != 0 && Math.floorDiv(mail.date, 1440) >= days[0]
                        && Math.floorDiv(mail.date, 1440) <= days[1];
                case "" -> stands(what, mail.fields.get(2)) || stands(what, mail.fields.get(3));
                default -> stands(what, mail.fields.get(List.of("from", "to", "subject", "body").indexOf(field)));
            };
            if (matches) {
                set.add(mail);
            }
        }
        return set;
    }

    private static int[] days(String what, int place) throws Refused {
        Matcher matcher = Pattern.compile("(\\d{8})?\\.\\.(\\d{8})?").matcher(what);
        if (!matcher.matches() || matcher.group(1) == null && matcher.group(2) == null) {
            throw new Refused(place);
        }
        int[] days = {-100000000, 100000000};
        for (int i = 0; i < 2; i++) {
            String digits = matcher.group(i + 1);
            if (digits != null) {
                int number = Integer.parseInt(digits);
                Integer day = day(number / 10000, number / 100 % 100, number % 100);
                if (day == null) {
                    throw new Refused(place);
                }
                days[i] = day;
            }
        }
        return days;
    }

    private static boolean stands(String what, List<String> field) {
        boolean begins = !what.endsWith("\"") && what.endsWith("*");
        List<String> phrase = words(what);
        if (phrase.isEmpty()) {
            return true;
        }
        for (int i = 0; i + phrase.size() <= field.size(); i++) {
            boolean same = true;
            for (int k = 0; k < phrase.size(); k++) {
                String word = field.get(i + k);
                boolean last = begins && k == phrase.size() - 1;
                same &= last ? word.startsWith(phrase.get(k)) : word.equals(phrase.get(k));
            }
            if (same) {
                return true;
            }
        }
        return false;
    }
}
