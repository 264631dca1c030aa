import java.util.ArrayList;
import java.util.Arrays;
import java.util.Collections;
import java.util.HashMap;
import java.util.HashSet;
import java.util.List;
import java.util.Map;
import java.util.Set;

/** The document once more, by trying everything, so that it shares no idea with the class. */
final class Reference {
    private static final class Part {
        int voice, rank, change;
    }

    private static final class Player {
        int voices, size, share, purse;
        boolean sick;
    }

    private static final class Scene {
        int parts, pause;
    }

    private static final class Coat {
        int rank, size, price;
        boolean pawned;
    }

    private static final class Town {
        int x, y, takings;
    }

    private final List<Part> parts = new ArrayList<>();
    private final List<Player> players = new ArrayList<>();
    private final List<Scene> scenes = new ArrayList<>();
    private final List<Coat> coats = new ArrayList<>();
    private final List<Town> towns = new ArrayList<>();
    private int takenIn, paid, nights, refused;
    private final Map<String, int[]> casts = new HashMap<>();

    private static void argument(boolean fine) {
        if (!fine) throw new IllegalArgumentException();
    }

    private static void state(boolean fine) {
        if (!fine) throw new IllegalStateException();
    }

    private static void index(int k, List<?> of) {
        if (k < 0 || k >= of.size()) throw new IndexOutOfBoundsException();
    }

    private static boolean in(int value, int from, int to) {
        return from <= value && value <= to;
    }

    private static boolean isSet(int set, List<?> of) {
        return in(set, 0, (int) Math.pow(2, of.size()) - 1);
    }

    private static List<Integer> members(int set) {
        List<Integer> found = new ArrayList<>();
        for (int k = 0; set > 0; k++, set /= 2) {
            if (set % 2 == 1) found.add(k);
        }
        return found;
    }

    private static int setOf(Iterable<Integer> numbers) {
        int sum = 0;
        for (int k : numbers) sum += (int) Math.pow(2, k);
        return sum;
    }

    int part(int voice, int rank, int change) {
        argument(in(voice, 0, 3) && in(rank, 0, 3) && in(change, 0, 9));
        state(parts.size() < 7);
        Part p = new Part();
        p.voice = voice;
        p.rank = rank;
        p.change = change;
        parts.add(p);
        return parts.size() - 1;
    }

    int player(int voices, int size, int share) {
        argument(in(voices, 0, 15) && in(size, 1, 9) && in(share, 1, 5));
        state(players.size() < 5);
        Player p = new Player();
        p.voices = voices;
        p.size = size;
        p.share = share;
        players.add(p);
        return players.size() - 1;
    }

    int scene(int set, int pause) {
        argument(set != 0 && isSet(set, parts) && in(pause, 0, 9));
        state(scenes.size() < 6);
        Scene s = new Scene();
        s.parts = set;
        s.pause = pause;
        scenes.add(s);
        return scenes.size() - 1;
    }

    int pause(int scene, int pause) {
        index(scene, scenes);
        argument(in(pause, 0, 9));
        int before = scenes.get(scene).pause;
        scenes.get(scene).pause = pause;
        return before;
    }

    int sick(int player, boolean is) {
        index(player, players);
        players.get(player).sick = is;
        return well();
    }

    private int well() {
        int count = 0;
        for (Player p : players) if (!p.sick) count++;
        return count;
    }

    int coat(int rank, int size, int price) {
        argument(in(rank, 0, 3) && in(size, 1, 9) && in(price, 1, 99));
        state(coats.size() < 6);
        Coat c = new Coat();
        c.rank = rank;
        c.size = size;
        c.price = price;
        coats.add(c);
        return coats.size() - 1;
    }

    int pawn(int coat, int player) {
        index(coat, coats);
        index(player, players);
        Coat c = coats.get(coat);
        state(!c.pawned);
        c.pawned = true;
        takenIn += c.price;
        return players.get(player).purse += c.price;
    }

    int redeem(int coat, int player) {
        index(coat, coats);
        index(player, players);
        Coat c = coats.get(coat);
        int due = c.price * 11 / 10;
        state(c.pawned && players.get(player).purse >= due);
        c.pawned = false;
        paid += due;
        return players.get(player).purse -= due;
    }

    int town(int x, int y, int takings) {
        argument(in(x, 0, 99) && in(y, 0, 99) && in(takings, 0, 999));
        state(towns.size() < 5);
        Town t = new Town();
        t.x = x;
        t.y = y;
        t.takings = takings;
        towns.add(t);
        return towns.size() - 1;
    }

    int night(int town) {
        index(town, towns);
        int[] best = best();
        state(best != null && count(best) > 0);
        Town t = towns.get(town);
        int[] shares = shares(t.takings, best);
        for (int p = 0; p < players.size(); p++) players.get(p).purse += shares[p];
        int shared = t.takings;
        takenIn += shared;
        nights++;
        t.takings = shared / 2;
        return shared;
    }

    int knock() {
        return ++refused;
    }

    private int[] shares(int amount, int[] cast) {
        int[] got = new int[players.size()];
        Set<Integer> actors = actorsOf(cast);
        if (actors.isEmpty()) return got;
        int all = 0;
        for (int p : actors) all += players.get(p).share;
        int total = all;
        int left = amount;
        for (int p : actors) {
            got[p] = amount * players.get(p).share / total;
            left -= got[p];
        }
        List<Integer> byRest = new ArrayList<>(actors);
        Collections.sort(byRest);
        byRest.sort((a, b) -> amount * players.get(b).share % total - amount * players.get(a).share % total);
        for (int k = 0; k < left; k++) got[byRest.get(k)]++;
        return got;
    }

    private static Set<Integer> actorsOf(int[] cast) {
        Set<Integer> actors = new HashSet<>();
        for (int p : cast) if (p >= 0) actors.add(p);
        return actors;
    }

    private static int count(int[] cast) {
        return actorsOf(cast).size();
    }

    private List<Integer> all(List<?> of) {
        List<Integer> numbers = new ArrayList<>();
        for (int k = 0; k < of.size(); k++) numbers.add(k);
        return numbers;
    }

    private boolean clash(int one, int other, List<Integer> some) {
        if (one == other) return false;
        for (int k = 0; k < some.size(); k++) {
            Scene s = scenes.get(some.get(k));
            List<Integer> here = members(s.parts);
            if (here.contains(one) && here.contains(other)) return true;
            if (k + 1 == some.size()) break;
            List<Integer> next = members(scenes.get(some.get(k + 1)).parts);
            boolean meet = here.contains(one) && next.contains(other) || here.contains(other) && next.contains(one);
            if (meet && parts.get(one).change + parts.get(other).change > s.pause) return true;
        }
        return false;
    }

    private boolean canPlay(int player, int part) {
        Player p = players.get(player);
        return !p.sick && members(p.voices).contains(parts.get(part).voice);
    }

    /** All casts are made, and the least one by players and then part by part is taken. */
    private int[] bestOf(List<Integer> some) {
        StringBuilder key = new StringBuilder(some.toString());
        for (Scene s : scenes) key.append(' ').append(s.parts).append('/').append(s.pause);
        for (Player p : players) key.append(' ').append(p.voices).append(p.sick);
        key.append(parts.size());
        if (casts.containsKey(key.toString())) return casts.get(key.toString());
        boolean[][] clashes = new boolean[parts.size()][parts.size()];
        boolean[] needed = new boolean[parts.size()];
        for (int a = 0; a < parts.size(); a++) {
            for (int b = 0; b < parts.size(); b++) clashes[a][b] = clash(a, b, some);
            for (int s : some) needed[a] |= members(scenes.get(s).parts).contains(a);
        }
        int[] now = new int[parts.size()];
        Arrays.fill(now, -1);
        int[][] least = new int[1][];
        tryAll(0, now, clashes, needed, least);
        casts.put(key.toString(), least[0]);
        return least[0];
    }

    private void tryAll(int part, int[] now, boolean[][] clashes, boolean[] needed, int[][] least) {
        if (part == parts.size()) {
            if (least[0] == null || count(now) < count(least[0])
                    || count(now) == count(least[0]) && Arrays.compare(now, least[0]) < 0) {
                least[0] = now.clone();
            }
            return;
        }
        if (!needed[part]) {
            tryAll(part + 1, now, clashes, needed, least);
            return;
        }
        for (int player = players.size() - 1; player >= 0; player--) {
            boolean free = canPlay(player, part);
            for (int other = 0; other < part; other++) {
                if (now[other] == player && clashes[part][other]) free = false;
            }
            if (!free) continue;
            now[part] = player;
            tryAll(part + 1, now, clashes, needed, least);
            now[part] = -1;
        }
    }

    private int[] best() {
        return bestOf(all(scenes));
    }

    private int fewest(List<Integer> some) {
        int[] cast = bestOf(some);
        return cast == null ? -1 : count(cast);
    }

    private int cut() {
        int best = -1;
        for (int set = 0; isSet(set, scenes); set++) {
            if (best >= 0 && members(set).size() >= members(best).size()) continue;
            if (would(set) >= 0) best = set;
        }
        return best;
    }

    int would(int left) {
        argument(isSet(left, scenes));
        List<Integer> others = all(scenes);
        others.removeAll(members(left));
        return fewest(others);
    }

    int without(int player) {
        index(player, players);
        boolean before = players.get(player).sick;
        players.get(player).sick = true;
        int count = fewest(all(scenes));
        players.get(player).sick = before;
        return count;
    }

    int shareOf(int amount, int player) {
        index(player, players);
        argument(in(amount, 0, 9999));
        return best() == null ? 0 : shares(amount, best())[player];
    }

    private int filled(List<Integer> rest, Set<Integer> busy) {
        if (rest.isEmpty()) return 0;
        List<Integer> others = rest.subList(1, rest.size());
        int most = filled(others, busy);
        for (int p = 0; p < players.size(); p++) {
            if (busy.contains(p) || !canPlay(p, rest.get(0))) continue;
            busy.add(p);
            most = Math.max(most, 1 + filled(others, busy));
            busy.remove(p);
        }
        return most;
    }

    private int excess(int set) {
        Set<Integer> can = new HashSet<>();
        for (int part : members(set)) {
            for (int p = 0; p < players.size(); p++) if (canPlay(p, part)) can.add(p);
        }
        return members(set).size() - can.size();
    }

    private int lack(int set) {
        int best = 0;
        for (int some = 0; some <= set; some++) {
            if (members(set).containsAll(members(some)) && excess(some) > excess(best)) best = some;
        }
        return best;
    }

    private int waste(List<Integer> rest, int[] cast, Set<Integer> worn) {
        if (rest.isEmpty()) return 0;
        int least = -1;
        Part part = parts.get(rest.get(0));
        Player player = players.get(cast[rest.get(0)]);
        for (int k = 0; k < coats.size(); k++) {
            Coat c = coats.get(k);
            int off = Math.max(c.size, player.size) - Math.min(c.size, player.size);
            if (c.pawned || worn.contains(k) || c.rank < part.rank || off > 2) continue;
            worn.add(k);
            int more = waste(rest.subList(1, rest.size()), cast, worn);
            worn.remove(k);
            int sum = c.rank - part.rank + off + more;
            if (more >= 0 && (least < 0 || sum < least)) least = sum;
        }
        return least;
    }

    int ofPart(int part, int what) {
        index(part, parts);
        argument(in(what, 0, 6));
        Part p = parts.get(part);
        List<Integer> found = new ArrayList<>();
        switch (what) {
            case 0: return p.voice;
            case 1: return p.rank;
            case 2: return p.change;
            case 3:
                for (int s : all(scenes)) if (members(scenes.get(s).parts).contains(part)) found.add(s);
                return setOf(found);
            case 4:
                for (int other : all(parts)) if (clash(part, other, all(scenes))) found.add(other);
                return setOf(found);
            case 5:
                for (int k : all(players)) if (canPlay(k, part)) found.add(k);
                return setOf(found);
            default: return best() == null ? -1 : best()[part];
        }
    }

    int ofPlayer(int player, int what) {
        index(player, players);
        argument(in(what, 0, 5));
        Player p = players.get(player);
        int[] best = best();
        List<Integer> found = new ArrayList<>();
        for (int part : all(parts)) if (best != null && best[part] == player) found.add(part);
        return new int[] {p.voices, p.size, p.share, p.sick ? 1 : 0, setOf(found), p.purse}[what];
    }

    int ofScene(int scene, int what) {
        index(scene, scenes);
        argument(in(what, 0, 5));
        Scene s = scenes.get(scene);
        switch (what) {
            case 0: return s.parts;
            case 1: return s.pause;
            case 2: return filled(members(s.parts), new HashSet<>());
            case 3: return lack(s.parts);
            case 4: return excess(lack(s.parts));
            default: return best() == null ? -1 : waste(members(s.parts), best(), new HashSet<>());
        }
    }

    int ofCoat(int coat, int what) {
        index(coat, coats);
        argument(in(what, 0, 3));
        Coat c = coats.get(coat);
        return new int[] {c.rank, c.size, c.price, c.pawned ? 1 : 0}[what];
    }

    int ofTown(int town, int what) {
        index(town, towns);
        argument(in(what, 0, 3));
        Town t = towns.get(town);
        return new int[] {t.x, t.y, t.takings, t.x + t.y}[what];
    }

    int house(int what) {
        argument(in(what, 0, 13));
        int pawned = 0;
        int purses = 0;
        for (Coat c : coats) if (c.pawned) pawned++;
        for (Player p : players) purses += p.purse;
        if (what == 7) return fewest(all(scenes));
        if (what == 8) return cut();
        return new int[] {parts.size(), players.size(), well(), scenes.size(), coats.size(), pawned, towns.size(),
            0, 0, takenIn, paid, purses, nights, refused}[what];
    }

    String cast() {
        int[] best = best();
        if (best == null) return "none";
        String signs = "";
        for (int p : best) signs += p < 0 ? "." : "" + p;
        return signs;
    }

    int tour(int miles, int what) {
        argument(in(miles, 0, 2000) && in(what, 0, 2));
        int[] best = {0, 0, 0};
        wander(new ArrayList<>(), 0, 0, 0, miles, best);
        return best[what];
    }

    private void wander(List<Integer> seen, int x, int y, int gone, int limit, int[] best) {
        int sum = 0;
        for (int k : seen) sum += towns.get(k).takings;
        int miles = gone + x + y;
        int set = setOf(seen);
        if (miles <= limit && (sum > best[1] || sum == best[1] && (miles < best[2] || miles == best[2] && set < best[0]))) {
            best[0] = set;
            best[1] = sum;
            best[2] = miles;
        }
        for (int k : all(towns)) {
            if (seen.contains(k)) continue;
            Town t = towns.get(k);
            List<Integer> then = new ArrayList<>(seen);
            then.add(k);
            wander(then, t.x, t.y, gone + Math.abs(t.x - x) + Math.abs(t.y - y), limit, best);
        }
    }

    boolean isSound() {
        return true;
    }

    long digest() {
        long d = 8117;
        for (int k = 0; k <= 13; k++) d = d * 31 + house(k);
        for (int p : all(parts)) for (int k = 0; k <= 6; k++) d = d * 31 + ofPart(p, k);
        for (int p : all(players)) {
            for (int k = 0; k <= 5; k++) d = d * 31 + ofPlayer(p, k);
            d = d * 31 + without(p);
            d = d * 31 + shareOf(100, p);
        }
        for (int s : all(scenes)) for (int k = 0; k <= 5; k++) d = d * 31 + ofScene(s, k);
        for (int c : all(coats)) d = d * 31 + ofCoat(c, 3);
        for (int t : all(towns)) for (int k = 2; k <= 3; k++) d = d * 31 + ofTown(t, k);
        for (int k = 0; k <= 2; k++) d = d * 31 + tour(150, k);
        d = d * 31 + cast().length();
        return d * 31 + (isSound() ? 1 : 0);
    }
}
