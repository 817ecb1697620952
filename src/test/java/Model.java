import java.util.ArrayDeque;
import java.util.ArrayList;
import java.util.Arrays;
import java.util.Deque;
import java.util.List;

/**
 * The document told a second time, as plainly as it goes and in another way
 * than the class: a cut is an exception here, and the states are copied anew.
 */
final class Model {
    private static final class PowerLost extends Exception {
        private static final long serialVersionUID = 1;
    }

    private static final class State {
        int[][] words = new int[5][22];
        int[] erased = new int[5];
        int[] prices = {150, 250, 400, 800};
        boolean on = true;
        int block, next, number, sum, tickets, paper;
        int time, there, printed, done;
        Integer left = null;

        State copy() {
            State c = new State();
            for (int b = 0; b < 5; b++) {
                c.words[b] = words[b].clone();
            }
            c.erased = erased.clone();
            c.prices = prices.clone();
            c.on = on;
            c.block = block;
            c.next = next;
            c.number = number;
            c.sum = sum;
            c.tickets = tickets;
            c.paper = paper;
            c.time = time;
            c.there = there;
            c.printed = printed;
            c.done = done;
            c.left = left;
            return c;
        }
    }

    private State s = new State();
    private final Deque<State> past = new ArrayDeque<>();
    private final State[] images = new State[2];

    Model() {
        for (int[] block : s.words) {
            Arrays.fill(block, 65535);
        }
        System.arraycopy(new int[] {0, 0, 0, 0, 0, 1}, 0, s.words[0], 0, 6);
    }

    private void change() {
        past.addLast(s.copy());
        if (past.size() > 8) {
            past.removeFirst();
        }
    }

    // the flash

    private void operation() throws PowerLost {
        if (s.left != null && s.left == 0) {
            s.on = false;
            s.left = null;
            throw new PowerLost();
        }
        s.left = s.left == null ? null : s.left - 1;
        s.done++;
    }

    private void put(int block, int k, int... words) throws PowerLost {
        for (int i = 0; i < words.length; i++) {
            operation();
            s.words[block][k + i] = words[i];
        }
    }

    private void write(int kind, int time, int value) throws PowerLost {
        if (s.next == 4) {
            int behind = s.block == 4 ? 0 : s.block + 1;
            operation();
            Arrays.fill(s.words[behind], 65535);
            s.erased[behind]++;
            int a = s.words[s.block][0] == 9999 ? 0 : s.words[s.block][0] + 1;
            int check = (3 * a + 5 * s.sum + 7 * s.tickets + 11 * s.paper + 13 * s.number + 1) % 65521;
            put(behind, 0, a, s.sum, s.tickets, s.paper, s.number, check);
            s.block = behind;
            s.next = 0;
        }
        int first = 10000 * kind + s.number;
        int check = (3 * first + 5 * time + 7 * value + 11 * s.words[s.block][0] + 2) % 65521;
        put(s.block, 6 + 4 * s.next, first, time, value, check);
        s.next++;
        s.number = s.number == 9999 ? 0 : s.number + 1;
    }

    private boolean whole(int b) {
        int[] w = s.words[b];
        for (int k = 0; k < 5; k++) {
            if (w[k] == 65535) {
                return false;
            }
        }
        return w[5] == (3 * w[0] + 5 * w[1] + 7 * w[2] + 11 * w[3] + 13 * w[4] + 1) % 65521;
    }

    private int[] place(int b, int p) {
        return Arrays.copyOfRange(s.words[b], 6 + 4 * p, 10 + 4 * p);
    }

    private boolean empty(int b, int p) {
        return Arrays.equals(place(b, p), new int[] {65535, 65535, 65535, 65535});
    }

    private boolean wholeRecord(int b, int p) {
        int[] r = place(b, p);
        return !empty(b, p) && r[3] == (3 * r[0] + 5 * r[1] + 7 * r[2] + 11 * s.words[b][0] + 2) % 65521;
    }

    private int newest() {
        int newest = -1;
        for (int b = 0; b < 5; b++) {
            boolean last = whole(b);
            for (int c = 0; c < 5; c++) {
                last &= !(whole(c) && s.words[c][0] == (s.words[b][0] + 1) % 10000);
            }
            if (last && newest >= 0) {
                throw new AssertionError("two blocks are the newest");
            }
            newest = last ? b : newest;
        }
        return newest;
    }

    /** number, kind, time, value, block and place of each whole record, from the oldest. */
    private List<int[]> journal() {
        List<int[]> all = new ArrayList<>();
        int newest = newest();
        int last = s.words[newest][0];
        for (int sequence = last - 4; sequence <= last; sequence++) {
            for (int b = 0; b < 5; b++) {
                if (whole(b) && s.words[b][0] == Math.floorMod(sequence, 10000)) {
                    for (int p = 0; p < 4; p++) {
                        int[] r = place(b, p);
                        if (wholeRecord(b, p)) {
                            all.add(new int[] {r[0] % 10000, r[0] / 10000, r[1], r[2], b, p});
                        }
                    }
                }
            }
        }
        return all;
    }

    // the printer

    private int refusal(int sort) {
        if (sort < 0 || sort > 3) {
            return -1;
        }
        if (!s.on || s.sum + s.prices[sort] > 60000) {
            return -2;
        }
        return s.paper < length(sort) ? -3 : 0;
    }

    private static int length(int sort) {
        return new int[] {40, 60, 80, 100}[sort];
    }

    private int sale(int sort) {
        try {
            int number = s.number;
            int price = s.prices[sort];
            write(0, s.time, 1000 * sort + price);
            s.sum += price;
            s.tickets++;
            s.paper -= length(sort);
            if (s.there < length(sort)) {
                s.there = 0;
                write(1, s.time, 1000 * sort + price);
                s.sum -= price;
                s.tickets--;
            } else {
                s.there -= length(sort);
                s.printed++;
            }
            return number;
        } catch (PowerLost lost) {
            return -4;
        }
    }

    int sell(int sort) {
        if (refusal(sort) != 0) {
            return refusal(sort);
        }
        change();
        return sale(sort);
    }

    int cancel() {
        if (!s.on || s.next == 0 || !wholeRecord(s.block, s.next - 1)
                || place(s.block, s.next - 1)[0] >= 10000) {
            return -2;
        }
        change();
        int value = place(s.block, s.next - 1)[2];
        try {
            write(1, s.time, value);
        } catch (PowerLost lost) {
            return -4;
        }
        s.sum -= value % 1000;
        s.tickets--;
        return value % 1000;
    }

    int close() {
        if (!s.on) {
            return -2;
        }
        change();
        int sum = s.sum;
        try {
            write(3, s.time, sum);
        } catch (PowerLost lost) {
            return -4;
        }
        s.sum = 0;
        s.tickets = 0;
        return sum;
    }

    int load(int told, int there) {
        if (told < 0 || told > 50000 || there < 0 || there > 50000) {
            return -1;
        }
        if (!s.on) {
            return -2;
        }
        change();
        int before = s.there;
        s.there = there;
        try {
            write(4, s.time, told);
        } catch (PowerLost lost) {
            return -4;
        }
        s.paper = told;
        return before;
    }

    int setClock(int time) {
        if (time < 0 || time > 60000) {
            return -1;
        }
        if (!s.on) {
            return -2;
        }
        change();
        boolean far = time >= s.time + 5 || time <= s.time - 5;
        if (far) {
            try {
                write(2, time, s.time);
            } catch (PowerLost lost) {
                return -4;
            }
        }
        s.time = time;
        return far ? 1 : 0;
    }

    int pass(int minutes) {
        if (minutes < 1 || minutes > 5000) {
            return -1;
        }
        change();
        s.time = s.time + minutes > 60000 ? 60000 : s.time + minutes;
        return s.time;
    }

    int setPrice(int sort, int price) {
        if (sort < 0 || sort > 3 || price < 1 || price > 999) {
            return -1;
        }
        change();
        int before = s.prices[sort];
        s.prices[sort] = price;
        return before;
    }

    int cut(int operations) {
        if (operations < -1 || operations > 100) {
            return -1;
        }
        change();
        int before = s.left == null ? -9 : s.left;
        s.left = operations == -1 ? null : operations;
        return before;
    }

    int off() {
        if (!s.on) {
            return -2;
        }
        change();
        s.on = false;
        return records(-1);
    }

    int start() {
        if (s.on) {
            return -2;
        }
        change();
        wake();
        return s.number;
    }

    private void wake() {
        s.on = true;
        s.block = newest();
        s.next = 0;
        for (int p = 0; p < 4; p++) {
            s.next = empty(s.block, p) ? s.next : p + 1;
        }
        s.sum = s.words[s.block][1];
        s.tickets = s.words[s.block][2];
        s.paper = s.words[s.block][3];
        s.number = s.words[s.block][4];
        for (int[] r : journal()) {
            if (r[4] == s.block) {
                s.number = r[0] == 9999 ? 0 : r[0] + 1;
                s.sum = r[1] == 0 ? s.sum + r[3] % 1000 : r[1] == 1 ? s.sum - r[3] % 1000 : r[1] == 3 ? 0 : s.sum;
                s.tickets = r[1] == 0 ? s.tickets + 1 : r[1] == 1 ? s.tickets - 1 : r[1] == 3 ? 0 : s.tickets;
                s.paper = r[1] == 0 ? s.paper - length(r[3] / 1000) : r[1] == 4 ? r[3] : s.paper;
            }
        }
    }

    int undo() {
        if (past.isEmpty()) {
            return -2;
        }
        s = past.removeLast();
        return past.size();
    }

    // what is told

    int told(int what) {
        if (what < 0 || what > 12) {
            return -1;
        }
        int[] all = {s.on ? 1 : 0, s.time, s.number, s.sum, s.tickets, s.paper, s.block, s.next,
            s.there, s.printed, s.done, s.left == null ? -9 : s.left, past.size()};
        return what >= 2 && what <= 7 && !s.on ? -9 : all[what];
    }

    int price(int sort) {
        return sort < 0 || sort > 3 ? -1 : s.prices[sort];
    }

    int word(int block, int k) {
        return block < 0 || block > 4 || k < 0 || k > 21 ? -1 : s.words[block][k];
    }

    int block(int block, int what) {
        if (block < 0 || block > 4 || what < 0 || what > 4) {
            return -1;
        }
        int whole = 0;
        int torn = 0;
        for (int p = 0; p < 4 && whole(block); p++) {
            whole += wholeRecord(block, p) ? 1 : 0;
            torn += !wholeRecord(block, p) && !empty(block, p) ? 1 : 0;
        }
        int[] all = {whole(block) ? 1 : 0, whole(block) ? s.words[block][0] : -9, whole, torn, s.erased[block]};
        return all[what];
    }

    // reading the journal

    int records(int kind) {
        if (kind < -2 || kind > 4) {
            return -1;
        }
        int count = 0;
        for (int b = 0; b < 5 && kind == -2; b++) {
            count += block(b, 3);
        }
        for (int[] r : journal()) {
            count += kind == -1 || r[1] == kind ? 1 : 0;
        }
        return count;
    }

    int record(int k, int what) {
        if (k < 0 || what < 0 || what > 5) {
            return -1;
        }
        return k < journal().size() ? journal().get(k)[what] : -9;
    }

    int takings(int sort) {
        if (sort < -1 || sort > 3) {
            return -1;
        }
        int takings = 0;
        for (int[] r : journal()) {
            if (r[1] <= 1 && (sort == -1 || r[3] / 1000 == sort)) {
                takings += r[1] == 0 ? r[3] % 1000 : -(r[3] % 1000);
            }
        }
        return takings;
    }

    float mean() {
        int sum = 0;
        for (int[] r : journal()) {
            sum += r[1] == 0 ? r[3] % 1000 : 0;
        }
        return records(0) == 0 ? 0 : (float) sum / (float) records(0);
    }

    int times(int what) {
        if (what < 0 || what > 2) {
            return -1;
        }
        List<int[]> all = journal();
        int back = 0;
        int gaps = 0;
        Integer greatest = null;
        for (int k = 1; k < all.size(); k++) {
            int step = all.get(k)[2] - all.get(k - 1)[2];
            back += step < 0 ? 1 : 0;
            gaps += all.get(k)[0] == (all.get(k - 1)[0] + 1) % 10000 ? 0 : 1;
            greatest = greatest == null || step > greatest ? Integer.valueOf(step) : greatest;
        }
        return what == 0 ? back : what == 2 ? gaps : greatest == null ? 0 : greatest;
    }

    // what if

    int operations(int sort) {
        if (refusal(sort) != 0) {
            return refusal(sort);
        }
        State present = s;
        s = present.copy();
        s.left = null;
        sale(sort);
        int operations = s.done - present.done;
        s = present;
        return operations;
    }

    int after(int sort, int operations, int what) {
        if (sort < 0 || sort > 3 || operations < 0 || operations > 30 || what < 0 || what > 4) {
            return -1;
        }
        if (refusal(sort) != 0) {
            return refusal(sort);
        }
        State present = s;
        tryWith(sort, operations);
        int[] all = {records(-1), records(-2), s.number, s.sum, s.block};
        s = present;
        return all[what];
    }

    private void tryWith(int sort, int operations) {
        s = s.copy();
        s.left = operations;
        sale(sort);
        if (!s.on) {
            wake();
        }
    }

    int needed(int sort) {
        if (refusal(sort) != 0) {
            return refusal(sort);
        }
        State present = s;
        int[] ticket = {present.number, 0, present.time, 1000 * sort + present.prices[sort]};
        for (int n = 0; true; n++) {
            tryWith(sort, n);
            boolean found = false;
            for (int[] r : journal()) {
                found |= Arrays.equals(Arrays.copyOf(r, 4), ticket);
            }
            s = present;
            if (found) {
                return n;
            }
        }
    }

    // images

    int keep(int i) {
        if (i < 0 || i > 1) {
            return -1;
        }
        images[i] = s.copy();
        return records(-1);
    }

    int back(int i) {
        if (i < 0 || i > 1) {
            return -1;
        }
        if (images[i] == null) {
            return -2;
        }
        change();
        s = images[i].copy();
        return records(-1);
    }
}
