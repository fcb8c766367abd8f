import java.util.ArrayDeque;
import java.util.ArrayList;
import java.util.HashMap;
import java.util.LinkedHashMap;
import java.util.List;
import java.util.Map;
import java.util.regex.Matcher;
import java.util.regex.Pattern;

/**
 * The document once more, written from its words with the Java library and without a thought of
 * speed, for comparison. It shares no code and no way of working with the class under test.
 */
final class Model {
    private static final class Person {
        final int[] words = new int[4096];
        final int[] file = new int[4096];
        final ArrayDeque<Integer> input = new ArrayDeque<>();
        final ArrayDeque<Integer> output = new ArrayDeque<>();
        final List<Integer> paper = new ArrayList<>();
        int pc;
        int ac;
        int link;
        int switches;
        int state;
        int sleep;
        int turn;
        int lost;
        int steps;
    }

    private final List<Person> people = new ArrayList<>();
    private final ArrayDeque<Integer> ready = new ArrayDeque<>();
    private final Map<Integer, Integer> fieldOf = new HashMap<>();
    private final StringBuilder tape = new StringBuilder();
    private int[] settings;
    private int running = -1;
    private int steps;
    private int ticks;
    private int swaps;
    private int fieldTurn = 1;
    private int idle;
    private int fault;
    private int faultLine;

    int open(int users, int fields, int quantum, int beat) {
        if (settings != null || users < 1 || users > 8 || fields < 1 || fields > 7 || quantum < 1
                || quantum > 64 || beat < 4 || beat > 1000) {
            return -1;
        }
        settings = new int[] {users, fields, quantum, beat};
        for (int u = 0; u < users; u++) {
            people.add(new Person());
        }
        return 1;
    }

    int feed(int... numbers) {
        if (tape.length() + 20 > 8000) {
            return -1;
        }
        for (int n : numbers) {
            tape.append((char) (n >>> 24)).append((char) (n >>> 16 & 255));
            tape.append((char) (n >>> 8 & 255)).append((char) (n & 255));
        }
        return tape.length();
    }

    int end(int n) {
        if (n < 0 || n > tape.length()) {
            return -1;
        }
        tape.setLength(n);
        return n;
    }

    private boolean isNone(int u) {
        return u < 0 || u >= people.size();
    }

    private static boolean isNoWord(int v) {
        return v < 0 || v > 4095;
    }

    int poke(int u, int a, int v) {
        if (isNone(u) || isNoWord(a) || isNoWord(v)) {
            return -1;
        }
        people.get(u).words[a] = v;
        return 1;
    }

    int peek(int u, int a) {
        return isNone(u) || isNoWord(a) ? -1 : people.get(u).words[a];
    }

    int store(int u, int b, int i, int v) {
        if (isNone(u) || b < 0 || b > 31 || i < 0 || i > 127 || isNoWord(v)) {
            return -1;
        }
        people.get(u).file[b * 128 + i] = v;
        return 1;
    }

    int block(int u, int b, int i) {
        return isNone(u) || b < 0 || b > 31 || i < 0 || i > 127 ? -1 : people.get(u).file[b * 128 + i];
    }

    int switches(int u, int v) {
        if (isNone(u) || isNoWord(v)) {
            return -1;
        }
        people.get(u).switches = v;
        return 1;
    }

    int start(int u, int a) {
        if (isNone(u) || isNoWord(a)) {
            return -1;
        }
        if (people.get(u).state != 0) {
            return 0;
        }
        people.get(u).pc = a;
        becomeReady(u);
        dispatch();
        return 1;
    }

    int key(int u, int c) {
        if (isNone(u) || c < 0 || c > 255) {
            return -1;
        }
        Person p = people.get(u);
        if (p.input.size() == 16) {
            p.lost++;
            return 0;
        }
        p.input.addLast(c);
        if (p.state == 3) {
            becomeReady(u);
        }
        dispatch();
        return 1;
    }

    int run(int n) {
        if (settings == null || n < 0 || n > 1000) {
            return -1;
        }
        int idleBefore = idle;
        for (int i = 0; i < n; i++) {
            step();
        }
        return n - (idle - idleBefore);
    }

    private void becomeReady(int u) {
        people.get(u).state = 1;
        people.get(u).turn = 0;
        people.get(u).sleep = 0;
        ready.addLast(u);
    }

    private void dispatch() {
        if (running >= 0 || ready.isEmpty()) {
            return;
        }
        running = ready.removeFirst();
        people.get(running).state = 2;
        people.get(running).turn = settings[2];
        if (!fieldOf.containsKey(running)) {
            fieldOf.values().remove(fieldTurn);
            fieldOf.put(running, fieldTurn);
            swaps++;
            fieldTurn = fieldTurn % settings[1] + 1;
        }
    }

    private void step() {
        steps++;
        if (running < 0) {
            idle++;
        } else {
            Person p = people.get(running);
            instruction(p, running);
            p.steps++;
            if (p.state != 2) {
                p.turn = 0;
                running = -1;
            }
        }
        if (steps % settings[3] == 0) {
            tick();
        }
        dispatch();
    }

    private void tick() {
        ticks++;
        for (int u = 0; u < people.size(); u++) {
            Person p = people.get(u);
            if (!p.output.isEmpty()) {
                p.paper.add(p.output.removeFirst());
                if (p.state == 4) {
                    becomeReady(u);
                }
            }
            if (p.state == 5 && --p.sleep == 0) {
                becomeReady(u);
            }
        }
        if (running >= 0 && --people.get(running).turn == 0) {
            becomeReady(running);
            running = -1;
        }
    }

    private static boolean has(int w, int bit) {
        return (w & bit) == bit;
    }

    private void instruction(Person p, int u) {
        int own = p.pc;
        int w = p.words[own];
        p.pc = (own + 1) % 4096;
        int operation = w / 512;
        if (operation == 6) {
            device(p, u, w, own);
        } else if (operation == 7) {
            if (!has(w, 0400)) {
                operate(p, w);
            } else if (!has(w, 1)) {
                skipGroup(p, w);
            }
        } else {
            memory(p, w, own, operation);
        }
    }

    private static void memory(Person p, int w, int own, int operation) {
        int a = w % 128;
        if (has(w, 0200)) {
            a += own / 128 * 128;
        }
        if (has(w, 0400)) {
            if (a >= 8 && a <= 15) {
                p.words[a] = (p.words[a] + 1) % 4096;
            }
            a = p.words[a];
        }
        if (operation == 0) {
            p.ac = p.ac & p.words[a];
        } else if (operation == 1) {
            p.ac += p.words[a];
            carry(p);
        } else if (operation == 2) {
            p.words[a] = (p.words[a] + 1) % 4096;
            p.pc = (p.pc + (p.words[a] == 0 ? 1 : 0)) % 4096;
        } else if (operation == 3) {
            p.words[a] = p.ac;
            p.ac = 0;
        } else if (operation == 4) {
            p.words[a] = p.pc;
            p.pc = (a + 1) % 4096;
        } else {
            p.pc = a;
        }
    }

    private static void carry(Person p) {
        if (p.ac >= 4096) {
            p.ac -= 4096;
            p.link = 1 - p.link;
        }
    }

    private static void operate(Person p, int w) {
        p.ac = has(w, 0200) ? 0 : p.ac;
        p.link = has(w, 0100) ? 0 : p.link;
        p.ac = has(w, 040) ? 4095 - p.ac : p.ac;
        p.link = has(w, 020) ? 1 - p.link : p.link;
        if (has(w, 1)) {
            p.ac++;
            carry(p);
        }
        for (int i = 0; i < (has(w, 2) ? 2 : 1); i++) {
            if (has(w, 010) && !has(w, 4)) {
                int low = p.ac % 2;
                p.ac = p.ac / 2 + p.link * 2048;
                p.link = low;
            } else if (has(w, 4) && !has(w, 010)) {
                int high = p.ac / 2048;
                p.ac = p.ac * 2 % 4096 + p.link;
                p.link = high;
            }
        }
    }

    private static void skipGroup(Person p, int w) {
        boolean any = false;
        any |= has(w, 0100) && p.ac >= 2048;
        any |= has(w, 040) && p.ac == 0;
        any |= has(w, 020) && p.link == 1;
        if (has(w, 010) ? !any : any) {
            p.pc = (p.pc + 1) % 4096;
        }
        if (has(w, 0200)) {
            p.ac = 0;
        }
        if (has(w, 4)) {
            p.ac = p.ac | p.switches;
        }
        if (has(w, 2)) {
            p.state = 0;
        }
    }

    private static void device(Person p, int u, int w, int own) {
        if (w == 06031 && !p.input.isEmpty() || w == 06041 && p.output.size() < 16) {
            p.pc = (p.pc + 1) % 4096;
        } else if (w == 06036) {
            if (p.input.isEmpty()) {
                p.state = 3;
                p.pc = own;
            } else {
                p.ac = p.input.removeFirst();
            }
        } else if (w == 06046) {
            if (p.output.size() == 16) {
                p.state = 4;
                p.pc = own;
            } else {
                p.output.addLast(p.ac % 256);
            }
        } else if (w == 06051 && p.ac != 0) {
            p.state = 5;
            p.sleep = p.ac;
            p.ac = 0;
        } else if (w == 06052 || w == 06053) {
            int a = p.words[p.pc];
            p.pc = (p.pc + 1) % 4096;
            if (p.ac > 31) {
                p.ac = 4095;
                return;
            }
            for (int i = 0; i < 128; i++) {
                if (w == 06052) {
                    p.words[(a + i) % 4096] = p.file[p.ac * 128 + i];
                } else {
                    p.file[p.ac * 128 + i] = p.words[(a + i) % 4096];
                }
            }
            p.ac = 0;
        } else if (w == 06054) {
            p.ac = u;
        }
    }

    int about(int u, int what) {
        if (isNone(u) || what < 0 || what > 11) {
            return -1;
        }
        Person p = people.get(u);
        return new int[] {p.pc, p.ac, p.link, p.state, p.sleep, p.input.size(), p.output.size(),
            p.lost % 4096, fieldOf.getOrDefault(u, 0), p.paper.size(), p.turn, p.steps}[what];
    }

    int letter(int u, int i) {
        if (isNone(u)) {
            return -1;
        }
        List<Integer> paper = people.get(u).paper;
        return i < 0 || i >= paper.size() || i < paper.size() - 512 ? -1 : paper.get(i);
    }

    int waiting(int u, int i) {
        return isNone(u) ? -1 : nth(people.get(u).input, i);
    }

    int queued(int u, int i) {
        return isNone(u) ? -1 : nth(people.get(u).output, i);
    }

    int row(int i) {
        return nth(ready, i);
    }

    private static int nth(ArrayDeque<Integer> row, int i) {
        return i < 0 || i >= row.size() ? -1 : new ArrayList<>(row).get(i);
    }

    int house(int what) {
        if (settings == null || what < 0 || what > 10) {
            return -1;
        }
        if (what < 4) {
            return settings[what];
        }
        return new int[] {steps, ticks, running, ready.size(), swaps % 4096, fieldTurn, idle}[what - 4];
    }

    long digest() {
        long d = 7;
        for (int what = 0; what <= 10; what++) {
            d = d * 31 + house(what);
        }
        for (int u = 0; u < people.size(); u++) {
            for (int what = 0; what <= 11; what++) {
                d = d * 31 + about(u, what);
            }
            for (int a = 0; a < 4096; a++) {
                d = d * 31 + people.get(u).words[a];
            }
            for (int a = 0; a < 4096; a++) {
                d = d * 31 + people.get(u).file[a];
            }
        }
        return d;
    }

    // TEXTS

    private static final String B = "[ \\t]*";
    private static final String OVER = "(?![A-Z0-9])";
    private static final String NAME = "[A-Z][A-Z0-9]{0,5}" + OVER;
    private static final String TERM = "(?:[0-7]{1,4}" + OVER + "|" + NAME + "|\\.)";
    private static final String EXPRESSION = "-?" + TERM + "(?:[+-]" + TERM + ")*";
    private static final String MEMORY = "(?:AND|TAD|ISZ|DCA|JMS|JMP)" + OVER;
    private static final Pattern STATEMENT = Pattern.compile(B + "(?<labels>(?:" + NAME + "," + B + ")*)"
            + "(?:\\*" + B + "(?<origin>" + EXPRESSION + ")"
            + "|(?<name>" + NAME + ")=" + B + "(?<equal>" + EXPRESSION + ")"
            + "|(?<memory>" + MEMORY + ")" + B + "(?<i>I" + OVER + B + "(?=[A-Z0-9.(-]))?+"
            + "(?:(?<address>" + EXPRESSION + ")|\\(" + B + "(?<literal>" + EXPRESSION + ")(?:" + B + "\\))?)"
            + "|(?!" + MEMORY + ")(?<words>" + EXPRESSION + "(?:[ \\t]+" + EXPRESSION + ")*)"
            + ")?" + B);
    private static final String VALUES = "CLA 7200 CLL 7100 CMA 7040 CML 7020 RAR 7010 RAL 7004 RTR 7012 "
            + "RTL 7006 IAC 7001 NOP 7000 SMA 7500 SZA 7440 SPA 7510 SNA 7450 SNL 7420 SZL 7430 SKP 7410 "
            + "OSR 7404 HLT 7402 CIA 7041 KSF 6031 KRB 6036 TSF 6041 TLS 6046 SLP 6051 RDB 6052 WRB 6053 "
            + "WHO 6054";
    private static final List<String> OPERATIONS = List.of("AND", "TAD", "ISZ", "DCA", "JMS", "JMP");

    /** A FAULT, to leave a PASS with. */
    private static final class Stop extends Exception {
        private static final long serialVersionUID = 1;
        final int number;

        Stop(int number) {
            this.number = number;
        }
    }

    private Map<String, Integer> names;
    private int told;
    private Map<Integer, Integer> image;
    private Map<Integer, List<Integer>> pools;
    private int dot;

    int assemble(int u) {
        if (isNone(u)) {
            return -1;
        }
        String text = tape.toString();
        tape.setLength(0);
        names = new HashMap<>();
        told = 0;
        image = new LinkedHashMap<>();
        pools = new HashMap<>();
        String[] known = VALUES.split(" ");
        for (int i = 0; i < known.length; i += 2) {
            names.put(known[i], Integer.parseInt(known[i + 1], 8));
        }
        for (String word : OPERATIONS) {
            names.put(word, null);
        }
        names.put("I", null);
        fault = 0;
        faultLine = 0;
        pass(text, false);
        if (fault == 0) {
            pass(text, true);
        }
        if (fault != 0) {
            return -2;
        }
        image.forEach((a, w) -> people.get(u).words[a] = w);
        return image.size();
    }

    int fault(int what) {
        return what == 0 ? fault : what == 1 ? faultLine : -1;
    }

    private void pass(String text, boolean second) {
        dot = 0200;
        String[] lines = text.split("\n", -1);
        for (int i = 0; i < lines.length; i++) {
            for (String statement : lines[i].split("/", -1)[0].split(";", -1)) {
                try {
                    statement(statement, second);
                } catch (Stop stop) {
                    fault = stop.number;
                    faultLine = i + 1;
                    return;
                }
            }
        }
    }

    private void statement(String text, boolean second) throws Stop {
        Matcher m = STATEMENT.matcher(text);
        if (!m.matches()) {
            throw new Stop(1);
        }
        if (!second && !m.group("labels").isEmpty()) {
            for (String label : m.group("labels").split(",")) {
                if (!label.isBlank()) {
                    tell(label.strip(), dot);
                }
            }
        }
        if (m.group("origin") != null) {
            dot = value(m.group("origin"));
        } else if (m.group("name") != null && !second) {
            tell(m.group("name"), value(m.group("equal")));
        } else if (m.group("memory") != null || m.group("words") != null) {
            if (second) {
                put(dot, m.group("memory") != null ? memoryWord(m) : orOf(m.group("words")));
            }
            dot = (dot + 1) % 4096;
        }
    }

    private void tell(String name, int value) throws Stop {
        if (names.containsKey(name)) {
            throw new Stop(3);
        }
        if (++told > 200) {
            throw new Stop(6);
        }
        names.put(name, value);
    }

    private int value(String expression) throws Stop {
        Matcher m = Pattern.compile("([+-]?)([A-Z0-9.]+)").matcher(expression);
        int sum = 0;
        while (m.find()) {
            int term = termOf(m.group(2));
            sum += m.group(1).equals("-") ? -term : term;
        }
        return Math.floorMod(sum, 4096);
    }

    private int termOf(String term) throws Stop {
        if (term.equals(".")) {
            return dot;
        }
        if (Character.isDigit(term.charAt(0))) {
            return Integer.parseInt(term, 8);
        }
        Integer found = names.get(term);
        if (found == null) {
            throw new Stop(2);
        }
        return found;
    }

    private int orOf(String expressions) throws Stop {
        int or = 0;
        for (String expression : expressions.strip().split("[ \\t]+")) {
            or |= value(expression);
        }
        return or;
    }

    private int memoryWord(Matcher m) throws Stop {
        int page = dot / 128 * 128;
        int a;
        if (m.group("literal") != null) {
            int v = value(m.group("literal"));
            List<Integer> pool = pools.computeIfAbsent(page, x -> new ArrayList<>());
            if (!pool.contains(v)) {
                if (pool.size() == 128) {
                    throw new Stop(5);
                }
                put(page + 127 - pool.size(), v);
                pool.add(v);
            }
            a = page + 127 - pool.indexOf(v);
        } else {
            a = value(m.group("address"));
        }
        int w = OPERATIONS.indexOf(m.group("memory")) * 512 + (m.group("i") != null ? 256 : 0);
        if (a < 128) {
            return w + a;
        }
        if (a / 128 * 128 != page) {
            throw new Stop(4);
        }
        return w + 128 + a % 128;
    }

    private void put(int a, int w) throws Stop {
        if (image.containsKey(a)) {
            throw new Stop(5);
        }
        image.put(a, w);
    }
}
