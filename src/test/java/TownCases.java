/** The boundary cases of the Description: towns and purses, and the book. */
final class TownCases extends Cases {
    private static final String PLACE = "Description";

    TownCases(Check check) {
        super(check);
    }

    @Override
    void all() {
        towns();
        miles();
        home();
        tourByMiles();
        tourToNoTown();
        tourInSomeOrder();
        bestTourTakings();
        bestTourMiles();
        bestTourSet();
        pursesAtFirst();
        nightByShares();
        nightOfRests();
        nightOfLikeRests();
        nightOfActorsAlone();
        nightHalf();
        pawned();
        boughtBack();
        book();
    }

    private void says(String words) {
        check.says(PLACE, words);
    }

    /** Towns at these places, {x, y, takings} each. */
    private static Doublecoat towns(int[]... told) {
        Doublecoat x = new Doublecoat();
        for (int[] town : told) x.town(town[0], town[1], town[2]);
        return x;
    }

    private void dueTour(Doublecoat x, int limit, int set, int takings, int miles) {
        dueRow(x, new int[] {set, takings, miles}, (y, what) -> y.tour(limit, what));
    }

    // ---- towns

    private void towns() {
        says("TOWNS: at most 5, numbered from 0, each with x and y (0 to 99 each), and TAKINGS (0 to 999).");
        Doublecoat x = new Doublecoat();
        int[] xs = {0, 99, 1, 98, 50};
        int[] ys = {99, 0, 98, 50, 1};
        int[] takings = {999, 0, 1, 998, 500};
        for (int n = 0; n < 5; n++) {
            int number = n;
            due(x, number, y -> y.town(xs[number], ys[number], takings[number]));
        }
        due(x, "throws." + STATE, y -> y.town(0, 0, 0));
        dueRow(x, xs, (y, town) -> y.ofTown(town, 0));
        dueRow(x, ys, (y, town) -> y.ofTown(town, 1));
        dueRow(x, takings, (y, town) -> y.ofTown(town, 2));
        due(x, 5, y -> y.house(6));
    }

    private void miles() {
        says("MILES between two places: by how much x and y differ, together.");
        // from town 0 to town 1 both may grow, both may shrink, or one each
        int[][] ends = {{20, 20}, {30, 27}, {30, 13}, {10, 27}, {10, 13}, {20, 21}, {21, 20}, {20, 20}};
        int[] between = {0, 17, 17, 17, 17, 1, 1, 0};
        for (int k = 0; k < ends.length; k++) {
            int[] end = ends[k];
            int round = 40 + between[k] + end[0] + end[1];
            dueTour(towns(new int[] {20, 20, 5}, new int[] {end[0], end[1], 5}), 2000, 3, 10, round);
            dueTour(towns(new int[] {end[0], end[1], 5}, new int[] {20, 20, 5}), 2000, 3, 10, round);
        }
        dueTour(towns(new int[] {99, 0, 1}, new int[] {0, 99, 1}), 2000, 3, 2, 396);
    }

    private void home() {
        says("HOME is at 0 and 0.");
        int[][] places = {{0, 0}, {1, 0}, {0, 1}, {99, 0}, {0, 99}, {99, 99}};
        int[] due = {0, 1, 1, 99, 99, 198};
        for (int k = 0; k < due.length; k++) {
            Doublecoat x = towns(new int[] {places[k][0], places[k][1], 7});
            due(x, due[k], y -> y.ofTown(0, 3));
            dueTour(x, 2 * due[k], 1, 7, 2 * due[k]);
        }
    }

    // ---- tours

    private static final String TOUR = "A TOUR by at most so many MILES: from HOME to some TOWNS (or none), to each of "
            + "them once at most, in some order, and back to HOME.";

    private void tourByMiles() {
        says(TOUR);
        Doublecoat x = towns(new int[] {3, 4, 10});
        dueTour(x, 0, 0, 0, 0);
        dueTour(x, 7, 0, 0, 0);
        dueTour(x, 13, 0, 0, 0);
        dueTour(x, 14, 1, 10, 14);
        dueTour(x, 15, 1, 10, 14);
        dueTour(x, 2000, 1, 10, 14);
        Doublecoat five = towns(new int[] {10, 0, 1}, new int[] {20, 0, 1}, new int[] {30, 0, 1}, new int[] {40, 0, 1},
                new int[] {50, 0, 1});
        for (int there = 0; there <= 5; there++) {
            dueTour(five, 20 * there, (1 << there) - 1, there, 20 * there);
            dueTour(five, 20 * there + 19, (1 << there) - 1, there, 20 * there);
        }
    }

    private void tourToNoTown() {
        says(TOUR);
        dueTour(new Doublecoat(), 0, 0, 0, 0);
        dueTour(new Doublecoat(), 2000, 0, 0, 0);
        dueTour(towns(new int[] {0, 1, 999}), 1, 0, 0, 0);
        dueTour(towns(new int[] {0, 1, 999}), 2, 1, 999, 2);
        dueTour(towns(new int[] {1, 0, 0}), 2000, 0, 0, 0);
        dueTour(towns(new int[] {0, 0, 0}), 0, 0, 0, 0);
        dueTour(towns(new int[] {0, 0, 1}), 0, 1, 1, 0);
    }

    private void tourInSomeOrder() {
        says(TOUR);
        // neither the order of the numbers nor the nearest next one is the shortest
        Doublecoat x = towns(new int[] {90, 0, 1}, new int[] {0, 90, 1}, new int[] {90, 1, 1}, new int[] {1, 90, 1},
                new int[] {45, 45, 1});
        dueTour(x, 360, 31, 5, 360);
        dueTour(x, 359, 21, 3, 270);
        // a town that is passed by is not paid for twice
        dueTour(towns(new int[] {0, 5, 10}, new int[] {0, 0, 10}), 2000, 3, 20, 10);
    }

    private static final String BEST = "The BEST TOUR has the greatest sum of TAKINGS; of several those with the fewest "
            + "MILES; it tells the set of TOWNS (of several the smallest number).";

    private void bestTourTakings() {
        says(BEST);
        // many far miles for one more
        Doublecoat x = towns(new int[] {99, 99, 11}, new int[] {0, 1, 10});
        dueTour(x, 396, 3, 21, 396);
        dueTour(x, 395, 2, 10, 2);
        Doublecoat one = towns(new int[] {99, 0, 11}, new int[] {0, 1, 10});
        dueTour(one, 199, 1, 11, 198);
        dueTour(one, 200, 3, 21, 200);
        // two small ones rather than a great one, if they pay more together
        Doublecoat two = towns(new int[] {0, 10, 60}, new int[] {5, 0, 30}, new int[] {6, 0, 31});
        dueTour(two, 20, 6, 61, 12);
        dueTour(two, 11, 2, 30, 10);
    }

    private void bestTourMiles() {
        says(BEST);
        Doublecoat x = towns(new int[] {6, 0, 50}, new int[] {0, 5, 50});
        dueTour(x, 12, 2, 50, 10);
        dueTour(x, 21, 2, 50, 10);
        dueTour(x, 22, 3, 100, 22);
        // a town that pays nothing is not gone to, but on no longer way it may be: the smaller number leaves it out
        dueTour(towns(new int[] {9, 0, 0}, new int[] {5, 0, 9}), 2000, 2, 9, 10);
        dueTour(towns(new int[] {3, 0, 0}, new int[] {5, 0, 9}), 2000, 2, 9, 10);
        dueTour(towns(new int[] {5, 0, 9}, new int[] {3, 0, 0}), 2000, 1, 9, 10);
    }

    private void bestTourSet() {
        says(BEST);
        dueTour(towns(new int[] {5, 0, 50}, new int[] {0, 5, 50}), 10, 1, 50, 10);
        dueTour(towns(new int[] {0, 5, 50}, new int[] {3, 0, 20}, new int[] {5, 0, 30}), 10, 1, 50, 10);
        dueTour(towns(new int[] {3, 0, 20}, new int[] {5, 0, 30}, new int[] {0, 5, 50}), 10, 3, 50, 10);
        dueTour(towns(new int[] {3, 0, 20}, new int[] {0, 5, 50}, new int[] {5, 0, 30}), 10, 2, 50, 10);
        dueTour(towns(new int[] {0, 0, 0}, new int[] {0, 0, 0}), 2000, 0, 0, 0);
        dueTour(towns(new int[] {0, 0, 0}, new int[] {0, 0, 3}), 2000, 2, 3, 0);
    }

    // ---- nights

    private void pursesAtFirst() {
        says("PURSES of PLAYERS are 0 at first.");
        dueRow(withPlayers(5), new int[5], (x, player) -> x.ofPlayer(player, 5));
        due(withPlayers(5), 0, x -> x.house(11));
        // one who joins later has nothing of what the others had
        Doublecoat x = with(1, 1, 1, 0, 1);
        x.night(0);
        addPlayers(x, 1);
        dueRow(x, new int[] {10, 0}, (y, player) -> y.ofPlayer(player, 5));
    }

    private static final String NIGHT = "A NIGHT in a TOWN: if there is a BEST CAST, TAKINGS are shared among PLAYERS who "
            + "have a PART in it: each TAKINGS * SHARE / all their SHARES; what is left goes to those one each whose rest "
            + "by that division is the greatest (of like ones the smaller number).";

    /** What each has in the purse behind one night, and what each would have by shareOf. */
    private void dueNight(int takings, int[] shares, int... due) {
        Doublecoat x = withShares(shares);
        x.town(0, 0, takings);
        dueRow(x, due, (y, player) -> y.shareOf(takings, player));
        due(x, takings, y -> y.night(0));
        dueRow(x, due, (y, player) -> y.ofPlayer(player, 5));
        due(x, takings, y -> y.house(11));
        due(x, takings, y -> y.house(9));
    }

    private void nightByShares() {
        says(NIGHT);
        dueNight(0, new int[] {1, 5}, 0, 0);
        dueNight(999, new int[] {1}, 999);
        dueNight(999, new int[] {5}, 999);
        dueNight(30, new int[] {1, 2, 3, 4, 5}, 2, 4, 6, 8, 10);
        dueNight(900, new int[] {5, 4, 3, 2, 1}, 300, 240, 180, 120, 60);
    }

    private void nightOfRests() {
        says(NIGHT);
        // by 3: rests 1 and 2
        dueNight(1, new int[] {1, 2}, 0, 1);
        dueNight(1, new int[] {2, 1}, 1, 0);
        // by 3: 2 and 4, so that the smaller share has the greater rest
        dueNight(2, new int[] {1, 2}, 1, 1);
        dueNight(2, new int[] {2, 1}, 1, 1);
        // by 7: 10, 20 and 40, rests 3, 6 and 5
        dueNight(10, new int[] {1, 2, 4}, 1, 3, 6);
        // by 15: 14, 28, 42, 56 and 70, rests 14, 13, 12, 11 and 10, and four are left
        dueNight(14, new int[] {1, 2, 3, 4, 5}, 1, 2, 3, 4, 4);
        dueNight(14, new int[] {5, 4, 3, 2, 1}, 4, 4, 3, 2, 1);
        // by 15: 1 to 5, and one is left
        dueNight(1, new int[] {1, 2, 3, 4, 5}, 0, 0, 0, 0, 1);
    }

    private void nightOfLikeRests() {
        says(NIGHT);
        dueNight(1, new int[] {1, 1, 1, 1, 1}, 1, 0, 0, 0, 0);
        dueNight(4, new int[] {3, 3, 3, 3, 3}, 1, 1, 1, 1, 0);
        dueNight(999, new int[] {2, 2, 2, 2, 2}, 200, 200, 200, 200, 199);
        // by 10: 2, 2, 8 and 8, and two are left
        dueNight(2, new int[] {1, 1, 4, 4}, 0, 0, 1, 1);
        // by 6: 3 and 15, so that both rests are 3: the smaller number has it, whatever its share
        dueNight(3, new int[] {1, 5}, 1, 2);
        dueNight(3, new int[] {5, 1}, 3, 0);
    }

    private void nightOfActorsAlone() {
        says(NIGHT);
        // shares of those who have no part do not count, nor do they get what is left
        Doublecoat x = withParts(new int[] {0, 0}, new int[] {1, 0});
        x.player(4, 5, 5);
        x.player(1, 5, 1);
        x.player(15, 5, 5);
        x.player(2, 5, 1);
        x.scene(3, 0);
        x.sick(2, true);
        x.town(0, 0, 5);
        due(x, "13", y -> y.cast());
        due(x, 5, y -> y.night(0));
        dueRow(x, new int[] {0, 3, 0, 2}, (y, player) -> y.ofPlayer(player, 5));
        dueRow(x, new int[] {0, 5000, 0, 4999}, (y, player) -> y.shareOf(9999, player));
        // a part that is in no scene does not pay
        Doublecoat idle = with(2, 2, 1, 0, 1);
        due(idle, 10, y -> y.night(0));
        dueRow(idle, new int[] {10, 0}, (y, player) -> y.ofPlayer(player, 5));
        // who has two parts has one share
        Doublecoat two = with(3, 2, 0, 0, 1);
        addScenes(two, 3, 0, 4, 0);
        due(two, "010", y -> y.cast());
        two.night(0);
        dueRow(two, new int[] {5, 5}, (y, player) -> y.ofPlayer(player, 5));
    }

    private void nightHalf() {
        says("TAKINGS of that TOWN are half of it then.");
        Doublecoat x = withShares(1);
        x.town(0, 0, 999);
        x.town(0, 0, 998);
        for (int due : new int[] {999, 499, 249, 124, 62, 31, 15, 7, 3, 1, 0, 0}) {
            due(x, due, y -> y.ofTown(0, 2));
            due(x, due, y -> y.night(0));
        }
        due(x, 998, y -> y.ofTown(1, 2));
        due(x, 12, y -> y.house(12));
        due(x, 1990, y -> y.house(9));
        dueTour(x, 0, 2, 998, 0);
    }

    // ---- coats and the book

    private void pawned() {
        says("To PAWN a COAT: PRICE comes to the PURSE of a PLAYER (it is taken in).");
        for (int k : new int[] {1, 2, 98, 99}) {
            int price = k;
            Doublecoat x = withPlayers(2);
            x.coat(0, 5, price);
            due(x, price, y -> y.pawn(0, 1));
            dueRow(x, new int[] {0, price}, (y, player) -> y.ofPlayer(player, 5));
            due(x, price, y -> y.house(9));
            due(x, 0, y -> y.house(10));
            due(x, price, y -> y.house(11));
            due(x, 1, y -> y.house(5));
        }
        // one who is sick may have it
        Doublecoat sick = with(0, 1, 0, 1, 0);
        sick.sick(0, true);
        due(sick, 10, x -> x.pawn(0, 0));
        Doublecoat back = with(0, 1, 0, 2, 0);
        back.pawn(0, 0);
        back.pawn(1, 0);
        back.sick(0, true);
        due(back, 9, x -> x.redeem(0, 0));
    }

    private void boughtBack() {
        says("To buy it back: PRICE and a tenth of it (cut) is paid out of the PURSE of a PLAYER that has it.");
        int[][] told = {{1, 1}, {9, 9}, {10, 11}, {11, 12}, {19, 20}, {20, 22}, {29, 31}, {30, 33}, {89, 97}, {90, 99},
            {99, 108}};
        for (int[] row : told) {
            Doublecoat x = with(0, 2, 0, 0, 0);
            x.coat(0, 5, row[0]);
            x.coat(0, 5, 99);
            x.coat(0, 5, 50);
            x.pawn(0, 1);
            x.pawn(1, 0);
            x.pawn(2, 0);
            due(x, 149 - row[1], y -> y.redeem(0, 0));
            due(x, row[1], y -> y.house(10));
            due(x, 149 + row[0], y -> y.house(9));
            due(x, 149 + row[0] - row[1], y -> y.house(11));
            due(x, 2, y -> y.house(5));
        }
    }

    private void book() {
        says("The PROMPTER has a BOOK: who asks for it is REFUSED (counted).");
        Doublecoat x = full();
        due(x, 1, y -> y.house(13));
        due(x, 2, y -> y.knock());
        due(x, 2, y -> y.house(13));
        // what is refused otherwise is not counted
        due(x, "throws." + STATE, y -> y.part(0, 0, 0));
        due(x, "throws." + INDEX, y -> y.night(5));
        due(x, 2, y -> y.house(13));
        due(x, 3, y -> y.knock());
    }
}
