import java.util.ArrayList;
import java.util.Arrays;
import java.util.List;
import java.util.NoSuchElementException;
import java.util.TreeMap;
import java.util.regex.Matcher;
import java.util.regex.Pattern;

/** A second reading of the document: minute by minute, order by order, with the Java library. */
public final class Model {
    private static final Pattern THING = Pattern.compile("[a-z]+|[0-9]+|[^ ]");

    private final StringBuilder tape = new StringBuilder();
    private int fault = -1;
    private int[] law = {0, 0, 0, 0};
    private int head = 500;
    private int slope = 2;
    private int year;
    private int now;
    private final List<List<int[]>> wells = new ArrayList<>();
    private final List<Integer> dugInOrder = new ArrayList<>();
    private final int[] dugYear = new int[8];
    /** Of each channel the share at each minute of its turn; null as long as it is not dug. */
    private final int[][] turns = new int[8][];
    private final List<Integer> owners = new ArrayList<>();
    private final List<Integer> ofChannel = new ArrayList<>();
    private final List<int[]> lettings = new ArrayList<>();
    private final List<int[]> fields = new ArrayList<>();

    public int feed(int a, int b, int c, int d, int e) {
        if (tape.length() > 380) {
            return -1;
        }
        for (int n : new int[] {a, b, c, d, e}) {
            for (byte one : java.nio.ByteBuffer.allocate(4).putInt(n).array()) {
                tape.append((char) (one & 255));
            }
        }
        return tape.length();
    }

    public boolean end(int n) {
        boolean may = n >= 0 && n <= tape.length();
        if (may) {
            tape.delete(n, tape.length());
        }
        return may;
    }

    public void ground(int newHead, int newSlope) {
        argument(newHead >= 0 && newHead <= 2000 && newSlope >= 0 && newSlope <= 20);
        head = newHead;
        slope = newSlope;
    }

    public int channel() {
        room(wells.size() < 8);
        wells.add(new ArrayList<>());
        return wells.size() - 1;
    }

    public int well(int channel, int x, int y, int floor) {
        exists(channel, wells.size());
        state(turns[channel] == null);
        List<int[]> row = wells.get(channel);
        argument(x >= 0 && x <= 100 && y >= 0 && y <= 100 && floor >= 0 && floor <= 1000);
        argument(row.isEmpty() || row.get(row.size() - 1)[2] <= floor);
        room(row.size() < 20);
        row.add(new int[] {x, y, floor, 0});
        return row.size() - 1;
    }

    public boolean may(int channel) {
        exists(channel, wells.size());
        state(turns[channel] == null);
        boolean all = wells.get(channel).size() >= 2;
        for (int[] w : wells.get(channel)) {
            boolean far = true;
            boolean above = true;
            for (int other : dugInOrder) {
                for (int[] v : wells.get(other)) {
                    boolean isNear = steps(w, v) < law[0];
                    far &= !isNear;
                    above &= !isNear || w[2] >= v[2] + law[1];
                }
            }
            all &= far || above;
        }
        return all;
    }

    public int dig(int channel, int owner, int days) {
        exists(channel, wells.size());
        state(turns[channel] == null);
        argument(owner >= 0 && owner <= 30 && days >= 1 && days <= 15);
        if (!may(channel) || owners.size() == 60) {
            return -1;
        }
        turns[channel] = new int[1440 * days];
        dugYear[channel] = year;
        dugInOrder.add(channel);
        Arrays.fill(turns[channel], newShare(channel, owner));
        return owners.size() - 1;
    }

    public int years(int n) {
        argument(n >= 0 && n <= 100);
        return year += n;
    }

    public boolean collapse(int channel, int well, boolean is) {
        int[] one = wellOf(channel, well);
        boolean was = one[3] == 1;
        one[3] = is ? 1 : 0;
        return is ? !was : was;
    }

    public int flow(int channel) {
        dug(channel);
        return flowWith(channel, dugInOrder);
    }

    public int harm(int channel) {
        dug(channel);
        List<Integer> earlier = dugInOrder.subList(0, dugInOrder.indexOf(channel) + 1);
        return flowWith(channel, earlier) - flow(channel);
    }

    public int seep(int channel, int well) {
        wellOf(channel, well);
        return seepWith(channel, well, dugInOrder);
    }

    public void sell(int share, int from, int to, int owner) {
        exists(share, owners.size());
        state(lettings.get(share)[2] <= now);
        int first = firstOf(share);
        int last = lastOf(share);
        argument(owner >= 0 && owner <= 30 && from >= first && from < to && to <= last);
        room(owners.size() + (from > first ? 1 : 0) + (to < last ? 1 : 0) <= 60);
        int channel = ofChannel.get(share);
        if (from > first) {
            Arrays.fill(turns[channel], first, from, newShare(channel, owners.get(share)));
        }
        if (to < last) {
            Arrays.fill(turns[channel], to, last, newShare(channel, owners.get(share)));
        }
        owners.set(share, owner);
        lettings.set(share, new int[3]);
    }

    public int heirs(int share, int many, int a, int pa, int b, int pb, int c, int pc, int d, int pd) {
        exists(share, owners.size());
        state(lettings.get(share)[2] <= now);
        int[] who = {a, b, c, d};
        int[] parts = {pa, pb, pc, pd};
        argument(many >= 2 && many <= 4);
        int sum = 0;
        for (int i = 0; i < many; i++) {
            argument(who[i] >= 0 && who[i] <= 30 && parts[i] >= 1 && parts[i] <= 100);
            sum += parts[i];
        }
        int at = firstOf(share);
        int length = lastOf(share) - at;
        int[] pieces = new int[many];
        int given = 0;
        for (int i = 0; i < many; i++) {
            pieces[i] = (int) Math.floor(length * parts[i] / (double) sum);
            given += pieces[i];
        }
        for (int i = 0; given < length; i = (i + 1) % many) {
            pieces[i]++;
            given++;
        }
        int come = (int) Arrays.stream(pieces).filter(p -> p > 0).count();
        room(owners.size() + come - 1 <= 60);
        int channel = ofChannel.get(share);
        boolean isFirst = true;
        for (int i = 0; i < many; i++) {
            if (pieces[i] == 0) {
                continue;
            }
            int number = share;
            if (isFirst) {
                owners.set(share, who[i]);
                lettings.set(share, new int[3]);
            } else {
                number = newShare(channel, who[i]);
            }
            isFirst = false;
            Arrays.fill(turns[channel], at, at + pieces[i], number);
            at += pieces[i];
        }
        return come;
    }

    public void let(int share, int to, int fromMinute, int toMinute) {
        exists(share, owners.size());
        state(lettings.get(share)[2] <= now);
        argument(to >= 0 && to <= 30 && to != owners.get(share));
        argument(now <= fromMinute && fromMinute < toMinute && toMinute <= 100000000);
        lettings.set(share, new int[] {to, fromMinute, toMinute});
    }

    public int minutes(int n) {
        argument(n >= 0 && n <= 100000);
        return now += n;
    }

    public int holder(int channel, int minute) {
        exists(channel, wells.size());
        argument(minute >= 0);
        if (turns[channel] == null) {
            return -1;
        }
        int share = turns[channel][minute % turns[channel].length];
        int[] letting = lettings.get(share);
        return minute >= letting[1] && minute < letting[2] ? letting[0] : owners.get(share);
    }

    public int share(int share, int what) {
        exists(share, owners.size());
        return switch (what) {
            case 0 -> ofChannel.get(share);
            case 1 -> firstOf(share);
            case 2 -> lastOf(share);
            case 3 -> owners.get(share);
            case 4 -> lettings.get(share)[2] > now ? 1 : 0;
            default -> throw new NoSuchElementException();
        };
    }

    public int law() {
        String text = tape.toString();
        tape.setLength(0);
        List<String> things = new ArrayList<>();
        List<Integer> begins = new ArrayList<>();
        Matcher m = THING.matcher(text);
        while (m.find()) {
            things.add(m.group());
            begins.add(m.start());
        }
        begins.add(text.length());
        int[] draft = law.clone();
        int good = goodThings(things, draft);
        fault = good < 0 ? -1 : begins.get(good);
        argument(good < 0);
        law = draft;
        return 1 + (int) things.stream().filter(t -> t.equals(";")).count();
    }

    /** Which thing is the first that cannot stand; -1 if all can. */
    private static int goodThings(List<String> things, int[] draft) {
        int i = 0;
        while (true) {
            String word = i < things.size() ? things.get(i) : "";
            int what = List.of("distance", "depth", "repair", "free").indexOf(word);
            if (what < 0) {
                return i;
            }
            String behind = i + 1 < things.size() ? things.get(i + 1) : "";
            if (what == 2) {
                if (!behind.equals("hours") && !behind.equals("heads")) {
                    return i + 1;
                }
                draft[2] = behind.equals("heads") ? 1 : 0;
            } else {
                int most = what == 1 ? 1000 : 100;
                if (!behind.matches("[0-9]{1,4}") || Integer.parseInt(behind) > most) {
                    return i + 1;
                }
                draft[what] = Integer.parseInt(behind);
            }
            i += 2;
            if (i == things.size()) {
                return -1;
            }
            if (!things.get(i).equals(";")) {
                return i;
            }
            i++;
        }
    }

    public int fault() {
        return fault;
    }

    public int says(int what) {
        if (what < 0 || what > 3) {
            throw new NoSuchElementException();
        }
        return law[what];
    }

    public int pays(int channel, int owner, int costs) {
        dug(channel);
        argument(owner >= 0 && owner <= 30 && costs >= 0 && costs <= 1000000);
        TreeMap<Integer, Long> minutes = new TreeMap<>();
        for (int share : turns[channel]) {
            minutes.merge(owners.get(share), 1L, Long::sum);
        }
        long rest = costs - costs * law[3] / 100;
        TreeMap<Integer, Long> paid = new TreeMap<>();
        long left = rest;
        for (int one : minutes.keySet()) {
            long pay = law[2] == 1 ? rest / minutes.size() : rest * minutes.get(one) / turns[channel].length;
            paid.put(one, pay);
            left -= pay;
        }
        for (int one : minutes.keySet()) {
            if (left > 0) {
                paid.merge(one, 1L, Long::sum);
                left--;
            }
        }
        return paid.getOrDefault(owner, 0L).intValue();
    }

    public int field(int minutes, int due, int loss) {
        argument(minutes >= 1 && minutes <= 1000 && due >= 0 && due <= 10000 && loss >= 0 && loss <= 100);
        if (fields.size() == 9) {
            return -1;
        }
        fields.add(new int[] {minutes, due, loss});
        return fields.size();
    }

    public int least() {
        int least = leastOf(new boolean[fields.size()], 0, fields.size());
        fields.clear();
        return least;
    }

    private int leastOf(boolean[] watered, int at, int left) {
        int least = left == 0 ? 0 : Integer.MAX_VALUE;
        for (int i = 0; i < watered.length; i++) {
            if (!watered[i]) {
                watered[i] = true;
                int done = at + fields.get(i)[0];
                int lost = fields.get(i)[2] * Math.max(0, done - fields.get(i)[1]);
                least = Math.min(least, lost + leastOf(watered, done, left - 1));
                watered[i] = false;
            }
        }
        return least;
    }

    public int count(int what) {
        return switch (what) {
            case 0 -> wells.size();
            case 1 -> dugInOrder.size();
            case 2 -> year;
            case 3 -> now;
            case 4 -> owners.size();
            case 5 -> (int) lettings.stream().filter(l -> l[2] > now).count();
            case 6 -> fields.size();
            case 7 -> dugInOrder.stream().mapToInt(this::flow).sum();
            default -> -1;
        };
    }

    private static void exists(int n, int many) {
        if (n < 0 || n >= many) {
            throw new IndexOutOfBoundsException();
        }
    }

    private static void state(boolean is) {
        if (!is) {
            throw new IllegalStateException();
        }
    }

    private static void argument(boolean is) {
        if (!is) {
            throw new IllegalArgumentException();
        }
    }

    private static void room(boolean is) {
        if (!is) {
            throw new UnsupportedOperationException();
        }
    }

    private void dug(int channel) {
        exists(channel, wells.size());
        state(turns[channel] != null);
    }

    private int[] wellOf(int channel, int well) {
        exists(channel, wells.size());
        exists(well, wells.get(channel).size());
        dug(channel);
        return wells.get(channel).get(well);
    }

    private int newShare(int channel, int owner) {
        owners.add(owner);
        ofChannel.add(channel);
        lettings.add(new int[3]);
        return owners.size() - 1;
    }

    private int firstOf(int share) {
        int[] turn = turns[ofChannel.get(share)];
        int at = 0;
        while (turn[at] != share) {
            at++;
        }
        return at;
    }

    private int lastOf(int share) {
        int[] turn = turns[ofChannel.get(share)];
        int at = turn.length;
        while (turn[at - 1] != share) {
            at--;
        }
        return at;
    }

    private static int steps(int[] w, int[] v) {
        int steps = 0;
        int x = w[0];
        int y = w[1];
        while (x != v[0] || y != v[1]) {
            x += Integer.signum(v[0] - x);
            y += Integer.signum(v[1] - y);
            steps++;
        }
        return steps;
    }

    private boolean runs(int channel, int well) {
        return wells.get(channel).get(well)[3] == 0 && (well == 0 || runs(channel, well - 1));
    }

    private int draw(int channel, int[] place) {
        int nearest = 30;
        for (int w = 0; w < wells.get(channel).size(); w++) {
            if (runs(channel, w)) {
                nearest = Math.min(nearest, steps(place, wells.get(channel).get(w)));
            }
        }
        int whole = 30 - nearest;
        return whole * Math.min(5, year - dugYear[channel]) / 5;
    }

    private int seepWith(int channel, int well, List<Integer> drawing) {
        if (!runs(channel, well)) {
            return 0;
        }
        int[] w = wells.get(channel).get(well);
        int table = head + slope * w[0];
        for (int other : drawing) {
            table -= other == channel ? 0 : draw(other, w);
        }
        int seep = Math.floorDiv(table - w[2], 10);
        return seep < 0 ? 0 : seep > 50 ? 50 : seep;
    }

    private int flowWith(int channel, List<Integer> drawing) {
        List<int[]> row = wells.get(channel);
        int goes = 0;
        for (int w = row.size() - 1; w >= 0; w--) {
            goes += seepWith(channel, w, drawing);
            int fall = w == 0 ? 1 : row.get(w)[2] - row.get(w - 1)[2];
            if (fall == 0 || fall > 20) {
                goes -= (int) Math.ceil(goes / 100.0);
            }
        }
        return goes;
    }
}
