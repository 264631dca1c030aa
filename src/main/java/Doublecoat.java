/** Players who wander with their wardrobe: who plays what, how it is dressed, and who is paid. */
public final class Doublecoat {
    private static final int NONE = -1;
    private static final int VOICES = 4;
    private static final int RANKS = 4;
    private static final int MOST_PARTS = 7;
    private static final int MOST_PLAYERS = 5;
    private static final int MOST_SCENES = 6;
    private static final int MOST_COATS = 6;
    private static final int MOST_TOWNS = 5;
    private static final int MOST_MINUTES = 9;
    private static final int MOST_SIZE = 9;
    private static final int MOST_SHARE = 5;
    private static final int MOST_PRICE = 99;
    private static final int MOST_PLACE = 99;
    private static final int MOST_TAKINGS = 999;
    private static final int MOST_MILES = 2000;
    private static final int MOST_AMOUNT = 9999;
    private static final int STRETCH = 2;

    private final Play play;
    private final Company company;
    private final Casting casting;
    private final Wardrobe wardrobe;
    private final Road road;
    private int takenIn;
    private int paid;
    private int nights;
    private int refused;

    public Doublecoat() {
        play = new Play();
        company = new Company();
        casting = new Casting();
        wardrobe = new Wardrobe();
        road = new Road();
    }

    // ---- plays and players

    public int part(int voice, int rank, int change) throws IllegalArgumentException, IllegalStateException {
        needWithin(voice, 0, VOICES - 1);
        needWithin(rank, 0, RANKS - 1);
        needWithin(change, 0, MOST_MINUTES);
        needRoom(play.parts, MOST_PARTS);
        casting.forget();
        return play.addPart(voice, rank, change);
    }

    public int player(int voices, int size, int share) throws IllegalArgumentException, IllegalStateException {
        needSet(voices, VOICES);
        needWithin(size, 1, MOST_SIZE);
        needWithin(share, 1, MOST_SHARE);
        needRoom(company.players, MOST_PLAYERS);
        casting.forget();
        return company.addPlayer(voices, size, share);
    }

    public int scene(int parts, int pause) throws IllegalArgumentException, IllegalStateException {
        needSet(parts, play.parts);
        needWithin(parts, 1, (1 << MOST_PARTS) - 1);
        needWithin(pause, 0, MOST_MINUTES);
        needRoom(play.scenes, MOST_SCENES);
        casting.forget();
        return play.addScene(parts, pause);
    }

    public int pause(int scene, int pause) throws IndexOutOfBoundsException, IllegalArgumentException {
        needIndex(scene, play.scenes);
        needWithin(pause, 0, MOST_MINUTES);
        casting.forget();
        int before = play.scenePause[scene];
        play.scenePause[scene] = pause;
        return before;
    }

    public int sick(int player, boolean is) throws IndexOutOfBoundsException {
        needIndex(player, company.players);
        casting.forget();
        company.sick = is ? company.sick | 1 << player : company.sick & ~(1 << player);
        return company.countWell();
    }

    // ---- coats

    public int coat(int rank, int size, int price) throws IllegalArgumentException, IllegalStateException {
        needWithin(rank, 0, RANKS - 1);
        needWithin(size, 1, MOST_SIZE);
        needWithin(price, 1, MOST_PRICE);
        needRoom(wardrobe.coats, MOST_COATS);
        return wardrobe.addCoat(rank, size, price);
    }

    public int pawn(int coat, int player) throws IndexOutOfBoundsException, IllegalStateException {
        needIndex(coat, wardrobe.coats);
        needIndex(player, company.players);
        if (has(wardrobe.pawned, coat)) {
            throw new IllegalStateException("the coat is pawned");
        }
        wardrobe.pawned |= 1 << coat;
        takenIn += wardrobe.price[coat];
        company.purse[player] += wardrobe.price[coat];
        return company.purse[player];
    }

    public int redeem(int coat, int player) throws IndexOutOfBoundsException, IllegalStateException {
        needIndex(coat, wardrobe.coats);
        needIndex(player, company.players);
        int cost = wardrobe.price[coat] + wardrobe.price[coat] / 10;
        if (!has(wardrobe.pawned, coat) || company.purse[player] < cost) {
            throw new IllegalStateException("the coat is not pawned, or the purse has not so much");
        }
        wardrobe.pawned &= ~(1 << coat);
        paid += cost;
        company.purse[player] -= cost;
        return company.purse[player];
    }

    // ---- towns

    public int town(int x, int y, int takings) throws IllegalArgumentException, IllegalStateException {
        needWithin(x, 0, MOST_PLACE);
        needWithin(y, 0, MOST_PLACE);
        needWithin(takings, 0, MOST_TAKINGS);
        needRoom(road.towns, MOST_TOWNS);
        return road.addTown(x, y, takings);
    }

    public int night(int town) throws IndexOutOfBoundsException, IllegalStateException {
        needIndex(town, road.towns);
        casting.recall(play, company);
        int actors = casting.actors();
        if (actors == 0) {
            throw new IllegalStateException("nobody plays");
        }
        int shared = road.takings[town];
        for (int player = 0; player < company.players; player++) {
            company.purse[player] += company.portion(shared, player, actors);
        }
        takenIn += shared;
        nights++;
        road.takings[town] = shared / 2;
        return shared;
    }

    public int knock() {
        refused++;
        return refused;
    }

    // ---- what is asked

    public int ofPart(int part, int what) throws IndexOutOfBoundsException, IllegalArgumentException {
        needIndex(part, play.parts);
        needWithin(what, 0, 6);
        switch (what) {
            case 0: return play.voice[part];
            case 1: return play.rank[part];
            case 2: return play.change[part];
            case 3: return play.scenesWith(part);
            case 4: return casting.clashesOf(part, play);
            case 5: return company.ableOfAny(1 << play.voice[part]);
            default:
                casting.recall(play, company);
                return casting.playerOf(part);
        }
    }

    public int ofPlayer(int player, int what) throws IndexOutOfBoundsException, IllegalArgumentException {
        needIndex(player, company.players);
        needWithin(what, 0, 5);
        switch (what) {
            case 0: return company.voices[player];
            case 1: return company.size[player];
            case 2: return company.share[player];
            case 3: return has(company.sick, player) ? 1 : 0;
            case 4:
                casting.recall(play, company);
                return casting.bestRoles[player];
            default: return company.purse[player];
        }
    }

    public int ofScene(int scene, int what) throws IndexOutOfBoundsException, IllegalArgumentException {
        needIndex(scene, play.scenes);
        needWithin(what, 0, 5);
        int parts = play.sceneParts[scene];
        switch (what) {
            case 0: return parts;
            case 1: return play.scenePause[scene];
            case 2: return filled(parts);
            case 3: return lack(parts);
            case 4: return excess(lack(parts));
            default:
                casting.recall(play, company);
                return leastWaste(parts);
        }
    }

    public int ofCoat(int coat, int what) throws IndexOutOfBoundsException, IllegalArgumentException {
        needIndex(coat, wardrobe.coats);
        needWithin(what, 0, 3);
        switch (what) {
            case 0: return wardrobe.rank[coat];
            case 1: return wardrobe.size[coat];
            case 2: return wardrobe.price[coat];
            default: return has(wardrobe.pawned, coat) ? 1 : 0;
        }
    }

    public int ofTown(int town, int what) throws IndexOutOfBoundsException, IllegalArgumentException {
        needIndex(town, road.towns);
        needWithin(what, 0, 3);
        switch (what) {
            case 0: return road.x[town];
            case 1: return road.y[town];
            case 2: return road.takings[town];
            default: return road.milesHome(town);
        }
    }

    public int house(int what) throws IllegalArgumentException {
        needWithin(what, 0, 13);
        switch (what) {
            case 0: return play.parts;
            case 1: return company.players;
            case 2: return company.countWell();
            case 3: return play.scenes;
            case 4: return wardrobe.coats;
            case 5: return Integer.bitCount(wardrobe.pawned);
            case 6: return road.towns;
            case 7:
                casting.recall(play, company);
                return casting.bestCount;
            case 8:
                casting.recall(play, company);
                return casting.cut;
            case 9: return takenIn;
            case 10: return paid;
            case 11: return company.allPurses();
            case 12: return nights;
            default: return refused;
        }
    }

    public String cast() {
        casting.recall(play, company);
        if (casting.bestCount == NONE) {
            return "none";
        }
        StringBuilder signs = new StringBuilder();
        for (int part = 0; part < play.parts; part++) {
            int player = casting.playerOf(part);
            signs.append(player == NONE ? '.' : (char) ('0' + player));
        }
        return signs.toString();
    }

    // ---- what would be

    public int tour(int miles, int what) throws IllegalArgumentException {
        needWithin(miles, 0, MOST_MILES);
        needWithin(what, 0, 2);
        int towns = road.bestTour(miles);
        switch (what) {
            case 0: return towns;
            case 1: return road.takingsOf(towns);
            default: return road.round[towns];
        }
    }

    public int would(int scenes) throws IllegalArgumentException {
        needSet(scenes, play.scenes);
        return casting.fewest(play, company, play.allScenes() & ~scenes);
    }

    public int without(int player) throws IndexOutOfBoundsException {
        needIndex(player, company.players);
        int before = company.sick;
        company.sick |= 1 << player;
        int count = casting.fewest(play, company, play.allScenes());
        company.sick = before;
        return count;
    }

    public int shareOf(int amount, int player) throws IndexOutOfBoundsException, IllegalArgumentException {
        needIndex(player, company.players);
        needWithin(amount, 0, MOST_AMOUNT);
        casting.recall(play, company);
        return company.portion(amount, player, casting.actors());
    }

    public boolean isSound() {
        for (int scene = 0; scene < play.scenes; scene++) {
            int parts = play.sceneParts[scene];
            if (filled(parts) + excess(lack(parts)) != Integer.bitCount(parts)) {
                return false;
            }
        }
        if (company.allPurses() != takenIn - paid || company.hasDebt()) {
            return false;
        }
        casting.recall(play, company);
        if (casting.bestCount == NONE) {
            return casting.cut != 0;
        }
        return casting.cut == 0 && !bestCastClashes();
    }

    public long digest() {
        long d = 8117;
        for (int what = 0; what <= 13; what++) {
            d = d * 31 + house(what);
        }
        for (int part = 0; part < play.parts; part++) {
            for (int what = 0; what <= 6; what++) {
                d = d * 31 + ofPart(part, what);
            }
        }
        for (int player = 0; player < company.players; player++) {
            for (int what = 0; what <= 5; what++) {
                d = d * 31 + ofPlayer(player, what);
            }
            d = d * 31 + without(player);
            d = d * 31 + shareOf(100, player);
        }
        for (int scene = 0; scene < play.scenes; scene++) {
            for (int what = 0; what <= 5; what++) {
                d = d * 31 + ofScene(scene, what);
            }
        }
        for (int coat = 0; coat < wardrobe.coats; coat++) {
            d = d * 31 + ofCoat(coat, 3);
        }
        for (int town = 0; town < road.towns; town++) {
            d = d * 31 + ofTown(town, 2);
            d = d * 31 + ofTown(town, 3);
        }
        for (int what = 0; what <= 2; what++) {
            d = d * 31 + tour(150, what);
        }
        d = d * 31 + cast().length();
        return d * 31 + (isSound() ? 1 : 0);
    }

    // ---- what the calls need

    private static void needWithin(int value, int least, int most) {
        if (value < least || value > most) {
            throw new IllegalArgumentException("out of its range");
        }
    }

    private static void needSet(int set, int members) {
        if (set < 0 || set >= 1 << members) {
            throw new IllegalArgumentException("not a set of what there is");
        }
    }

    private static void needIndex(int number, int count) {
        if (number < 0 || number >= count) {
            throw new IndexOutOfBoundsException("there is no such number");
        }
    }

    private static void needRoom(int count, int most) {
        if (count >= most) {
            throw new IllegalStateException("there are no more");
        }
    }

    private static boolean has(int set, int number) {
        return (set >> number & 1) != 0;
    }

    // ---- how the parts of the object work together

    private boolean bestCastClashes() {
        for (int part = 0; part < play.parts; part++) {
            int player = casting.playerOf(part);
            if (player != NONE && (casting.bestRoles[player] & casting.clashesOf(part, play)) != 0) {
                return true;
            }
        }
        return false;
    }

    /** Bit k of reached tells whether the set k of players can be at work in some of the parts. */
    private int filled(int parts) {
        int reached = 1;
        for (int part = 0; part < play.parts; part++) {
            if (has(parts, part)) {
                reached = withOneMore(reached, company.ableOfAny(1 << play.voice[part]));
            }
        }
        int most = 0;
        for (int set = 0; set < 1 << MOST_PLAYERS; set++) {
            if (has(reached, set)) {
                most = Math.max(most, Integer.bitCount(set));
            }
        }
        return most;
    }

    private static int withOneMore(int reached, int able) {
        int after = reached;
        for (int set = 0; set < 1 << MOST_PLAYERS; set++) {
            if (!has(reached, set)) {
                continue;
            }
            for (int player = 0; player < MOST_PLAYERS; player++) {
                if (has(able & ~set, player)) {
                    after |= 1 << (set | 1 << player);
                }
            }
        }
        return after;
    }

    private int lack(int parts) {
        int best = 0;
        int most = 0;
        for (int set = 1; set <= parts; set++) {
            if ((set & ~parts) != 0) {
                continue;
            }
            int excess = excess(set);
            if (excess > most) {
                best = set;
                most = excess;
            }
        }
        return best;
    }

    private int excess(int parts) {
        int voices = 0;
        for (int part = 0; part < play.parts; part++) {
            if (has(parts, part)) {
                voices |= 1 << play.voice[part];
            }
        }
        return Integer.bitCount(parts) - Integer.bitCount(company.ableOfAny(voices));
    }

    private int leastWaste(int parts) {
        if (casting.bestCount == NONE) {
            return NONE;
        }
        wardrobe.startDressing();
        for (int part = 0; part < play.parts; part++) {
            if (!has(parts, part)) {
                continue;
            }
            int player = casting.playerOf(part);
            if (player == NONE) {
                return NONE;
            }
            wardrobe.dressOneMore(play.rank[part], company.size[player]);
        }
        return wardrobe.leastWaste();
    }

    /** The parts and the scenes, as they are told. */
    private static final class Play {
        final int[] voice = new int[MOST_PARTS];
        final int[] rank = new int[MOST_PARTS];
        final int[] change = new int[MOST_PARTS];
        final int[] sceneParts = new int[MOST_SCENES];
        final int[] scenePause = new int[MOST_SCENES];
        int parts;
        int scenes;

        int addPart(int itsVoice, int itsRank, int itsChange) {
            voice[parts] = itsVoice;
            rank[parts] = itsRank;
            change[parts] = itsChange;
            parts++;
            return parts - 1;
        }

        int addScene(int itsParts, int itsPause) {
            sceneParts[scenes] = itsParts;
            scenePause[scenes] = itsPause;
            scenes++;
            return scenes - 1;
        }

        int allScenes() {
            return (1 << scenes) - 1;
        }

        int scenesWith(int part) {
            int set = 0;
            for (int scene = 0; scene < scenes; scene++) {
                if (has(sceneParts[scene], part)) {
                    set |= 1 << scene;
                }
            }
            return set;
        }

        int partsOf(int sceneSet) {
            int set = 0;
            for (int scene = 0; scene < scenes; scene++) {
                if (has(sceneSet, scene)) {
                    set |= sceneParts[scene];
                }
            }
            return set;
        }

        /** The next scene is the next one of the set, so what clashes depends on the whole set. */
        void fillClashes(int sceneSet, int[] clash) {
            for (int part = 0; part < clash.length; part++) {
                clash[part] = 0;
            }
            int before = NONE;
            for (int scene = 0; scene < scenes; scene++) {
                if (!has(sceneSet, scene)) {
                    continue;
                }
                clashTogether(sceneParts[scene], clash);
                if (before != NONE) {
                    clashInTurn(before, sceneParts[scene], clash);
                }
                before = scene;
            }
        }

        private void clashTogether(int set, int[] clash) {
            for (int part = 0; part < parts; part++) {
                if (has(set, part)) {
                    clash[part] |= set & ~(1 << part);
                }
            }
        }

        private void clashInTurn(int before, int laterParts, int[] clash) {
            for (int one = 0; one < parts; one++) {
                if (!has(sceneParts[before], one)) {
                    continue;
                }
                for (int other = 0; other < parts; other++) {
                    if (other != one && has(laterParts, other)
                            && change[one] + change[other] > scenePause[before]) {
                        clash[one] |= 1 << other;
                        clash[other] |= 1 << one;
                    }
                }
            }
        }
    }

    /** The players and their purses. */
    private static final class Company {
        final int[] voices = new int[MOST_PLAYERS];
        final int[] size = new int[MOST_PLAYERS];
        final int[] share = new int[MOST_PLAYERS];
        final int[] purse = new int[MOST_PLAYERS];
        int players;
        int sick;

        int addPlayer(int itsVoices, int itsSize, int itsShare) {
            voices[players] = itsVoices;
            size[players] = itsSize;
            share[players] = itsShare;
            players++;
            return players - 1;
        }

        int countWell() {
            return players - Integer.bitCount(sick);
        }

        int ableOfAny(int voiceSet) {
            int set = 0;
            for (int player = 0; player < players; player++) {
                if (!has(sick, player) && (voices[player] & voiceSet) != 0) {
                    set |= 1 << player;
                }
            }
            return set;
        }

        int allPurses() {
            int sum = 0;
            for (int player = 0; player < players; player++) {
                sum += purse[player];
            }
            return sum;
        }

        boolean hasDebt() {
            for (int player = 0; player < players; player++) {
                if (purse[player] < 0) {
                    return true;
                }
            }
            return false;
        }

        int portion(int amount, int player, int actors) {
            int allShares = sharesOf(actors);
            if (allShares == 0 || !has(actors, player)) {
                return 0;
            }
            int rest = amount * share[player] % allShares;
            int left = amount;
            int ahead = 0;
            for (int other = 0; other < players; other++) {
                if (!has(actors, other)) {
                    continue;
                }
                left -= amount * share[other] / allShares;
                int otherRest = amount * share[other] % allShares;
                if (otherRest > rest || otherRest == rest && other < player) {
                    ahead++;
                }
            }
            return amount * share[player] / allShares + (ahead < left ? 1 : 0);
        }

        private int sharesOf(int actors) {
            int sum = 0;
            for (int player = 0; player < players; player++) {
                if (has(actors, player)) {
                    sum += share[player];
                }
            }
            return sum;
        }
    }

    /** Looks for casts, and remembers the best one and the cut until something changes. */
    private static final class Casting {
        final int[] bestRoles = new int[MOST_PLAYERS];
        int bestCount;
        int cut;
        private boolean known;
        private final int[] able = new int[MOST_PARTS];
        private final int[] clash = new int[MOST_PARTS];
        private final int[] order = new int[MOST_PARTS];
        private final int[] roles = new int[MOST_PLAYERS];
        private int ordered;

        void forget() {
            known = false;
        }

        void recall(Play play, Company company) {
            if (known) {
                return;
            }
            bestCount = fewest(play, company, play.allScenes());
            for (int player = 0; player < MOST_PLAYERS; player++) {
                bestRoles[player] = 0;
            }
            if (bestCount != NONE) {
                keepFirst(play);
            }
            cut = fewestCut(play, company);
            known = true;
        }

        /** A search part by part with rising players meets the cast that is due first. */
        private void keepFirst(Play play) {
            orderByNumber(play.partsOf(play.allScenes()));
            if (canPlace(bestCount)) {
                System.arraycopy(roles, 0, bestRoles, 0, MOST_PLAYERS);
            }
        }

        private int fewestCut(Play play, Company company) {
            for (int size = 0; size < play.scenes; size++) {
                for (int set = 0; set < 1 << play.scenes; set++) {
                    if (Integer.bitCount(set) != size) {
                        continue;
                    }
                    prepare(play, company, play.allScenes() & ~set);
                    if (canPlace(MOST_PLAYERS)) {
                        return set;
                    }
                }
            }
            return play.allScenes();
        }

        int playerOf(int part) {
            for (int player = 0; player < MOST_PLAYERS; player++) {
                if (has(bestRoles[player], part)) {
                    return player;
                }
            }
            return NONE;
        }

        int actors() {
            int set = 0;
            for (int player = 0; player < MOST_PLAYERS; player++) {
                if (bestRoles[player] != 0) {
                    set |= 1 << player;
                }
            }
            return set;
        }

        int clashesOf(int part, Play play) {
            play.fillClashes(play.allScenes(), clash);
            return clash[part];
        }

        int fewest(Play play, Company company, int sceneSet) {
            prepare(play, company, sceneSet);
            if (!canPlace(MOST_PLAYERS)) {
                return NONE;
            }
            for (int count = 0; count < MOST_PLAYERS; count++) {
                if (canPlace(count)) {
                    return count;
                }
            }
            return MOST_PLAYERS;
        }

        private void prepare(Play play, Company company, int sceneSet) {
            play.fillClashes(sceneSet, clash);
            for (int part = 0; part < play.parts; part++) {
                able[part] = company.ableOfAny(1 << play.voice[part]);
            }
            orderByChoice(play.partsOf(sceneSet));
        }

        /** Parts that few can play come first, so that a search without hope ends soon. */
        private void orderByChoice(int parts) {
            ordered = 0;
            for (int choice = 0; choice <= MOST_PLAYERS; choice++) {
                for (int part = 0; part < MOST_PARTS; part++) {
                    if (has(parts, part) && Integer.bitCount(able[part]) == choice) {
                        order[ordered] = part;
                        ordered++;
                    }
                }
            }
        }

        private void orderByNumber(int parts) {
            ordered = 0;
            for (int part = 0; part < MOST_PARTS; part++) {
                if (has(parts, part)) {
                    order[ordered] = part;
                    ordered++;
                }
            }
        }

        private boolean canPlace(int mostPlayers) {
            for (int player = 0; player < MOST_PLAYERS; player++) {
                roles[player] = 0;
            }
            return canPlaceFrom(this, 0, mostPlayers);
        }

        /** The depth ends with the parts in order, of which there are seven at most. */
        private static boolean canPlaceFrom(Casting at, int depth, int newPlayers) {
            if (depth >= at.ordered) {
                return true;
            }
            int part = at.order[depth];
            for (int player = 0; player < MOST_PLAYERS; player++) {
                int fresh = at.roles[player] == 0 ? 1 : 0;
                if (!has(at.able[part], player) || (at.roles[player] & at.clash[part]) != 0 || fresh > newPlayers) {
                    continue;
                }
                at.roles[player] |= 1 << part;
                if (canPlaceFrom(at, depth + 1, newPlayers - fresh)) {
                    return true;
                }
                at.roles[player] &= ~(1 << part);
            }
            return false;
        }
    }

    /** The coats, and the table by which a scene is dressed part by part. */
    private static final class Wardrobe {
        final int[] rank = new int[MOST_COATS];
        final int[] size = new int[MOST_COATS];
        final int[] price = new int[MOST_COATS];
        int coats;
        int pawned;
        private final int[] least = new int[1 << MOST_COATS];
        private int dressed;

        int addCoat(int itsRank, int itsSize, int itsPrice) {
            rank[coats] = itsRank;
            size[coats] = itsSize;
            price[coats] = itsPrice;
            coats++;
            return coats - 1;
        }

        void startDressing() {
            for (int set = 0; set < least.length; set++) {
                least[set] = NONE;
            }
            least[0] = 0;
            dressed = 0;
        }

        void dressOneMore(int partRank, int playerSize) {
            for (int set = 0; set < 1 << coats; set++) {
                if (Integer.bitCount(set) != dressed || least[set] == NONE) {
                    continue;
                }
                for (int coat = 0; coat < coats; coat++) {
                    int waste = wasteOf(coat, partRank, playerSize);
                    if (waste != NONE && !has(set, coat)) {
                        keepLess(set | 1 << coat, least[set] + waste);
                    }
                }
            }
            dressed++;
        }

        int leastWaste() {
            int found = NONE;
            for (int set = 0; set < 1 << coats; set++) {
                if (Integer.bitCount(set) == dressed && least[set] != NONE
                        && (found == NONE || least[set] < found)) {
                    found = least[set];
                }
            }
            return found;
        }

        private void keepLess(int set, int waste) {
            if (least[set] == NONE || waste < least[set]) {
                least[set] = waste;
            }
        }

        private int wasteOf(int coat, int partRank, int playerSize) {
            int misfit = Math.abs(size[coat] - playerSize);
            if (has(pawned, coat) || rank[coat] < partRank || misfit > STRETCH) {
                return NONE;
            }
            return rank[coat] - partRank + misfit;
        }
    }

    /** The towns, and the fewest miles of a tour to each set of them. */
    private static final class Road {
        final int[] x = new int[MOST_TOWNS];
        final int[] y = new int[MOST_TOWNS];
        final int[] takings = new int[MOST_TOWNS];
        final int[] round = new int[1 << MOST_TOWNS];
        int towns;
        private final int[][] out = new int[1 << MOST_TOWNS][MOST_TOWNS];

        int addTown(int itsX, int itsY, int itsTakings) {
            int town = towns;
            x[town] = itsX;
            y[town] = itsY;
            takings[town] = itsTakings;
            towns++;
            for (int set = 1 << town; set < 1 << towns; set++) {
                measure(set);
            }
            return town;
        }

        /** Smaller sets have smaller numbers, so that what this builds on is measured before. */
        private void measure(int set) {
            round[set] = NONE;
            for (int last = 0; last < towns; last++) {
                if (!has(set, last)) {
                    continue;
                }
                out[set][last] = milesOut(set & ~(1 << last), last);
                int miles = out[set][last] + milesHome(last);
                if (round[set] == NONE || miles < round[set]) {
                    round[set] = miles;
                }
            }
        }

        private int milesOut(int before, int last) {
            if (before == 0) {
                return milesHome(last);
            }
            int found = NONE;
            for (int town = 0; town < towns; town++) {
                if (!has(before, town)) {
                    continue;
                }
                int miles = out[before][town] + Math.abs(x[town] - x[last]) + Math.abs(y[town] - y[last]);
                if (found == NONE || miles < found) {
                    found = miles;
                }
            }
            return found;
        }

        int milesHome(int town) {
            return x[town] + y[town];
        }

        int takingsOf(int set) {
            int sum = 0;
            for (int town = 0; town < towns; town++) {
                if (has(set, town)) {
                    sum += takings[town];
                }
            }
            return sum;
        }

        int bestTour(int miles) {
            int best = 0;
            for (int set = 1; set < 1 << towns; set++) {
                if (round[set] > miles) {
                    continue;
                }
                int more = takingsOf(set) - takingsOf(best);
                if (more > 0 || more == 0 && round[set] < round[best]) {
                    best = set;
                }
            }
            return best;
        }
    }
}
