/** All that can be asked of an object, so that two objects that were told the same can be compared. */
final class State {
    private State() {
    }

    /** These are some 370 calls at most, of the 512 that an object answers. */
    static String of(Doublecoat x) {
        StringBuilder all = new StringBuilder("house");
        for (int what = 0; what <= 13; what++) all.append(' ').append(x.house(what));
        all.append(" cast ").append(x.cast());
        for (int part = 0; part < x.house(0); part++) {
            all.append("\npart");
            for (int what = 0; what <= 6; what++) all.append(' ').append(x.ofPart(part, what));
        }
        for (int player = 0; player < x.house(1); player++) {
            all.append("\nplayer");
            for (int what = 0; what <= 5; what++) all.append(' ').append(x.ofPlayer(player, what));
            all.append(" without ").append(x.without(player));
            all.append(" shares ").append(x.shareOf(100, player)).append(' ').append(x.shareOf(9999, player));
        }
        for (int scene = 0; scene < x.house(3); scene++) {
            all.append("\nscene");
            for (int what = 0; what <= 5; what++) all.append(' ').append(x.ofScene(scene, what));
        }
        for (int coat = 0; coat < x.house(4); coat++) {
            all.append("\ncoat");
            for (int what = 0; what <= 3; what++) all.append(' ').append(x.ofCoat(coat, what));
        }
        for (int town = 0; town < x.house(6); town++) {
            all.append("\ntown");
            for (int what = 0; what <= 3; what++) all.append(' ').append(x.ofTown(town, what));
        }
        all.append("\ntour");
        for (int miles : new int[] {0, 100, 200, 400, 2000}) {
            for (int what = 0; what <= 2; what++) all.append(' ').append(x.tour(miles, what));
        }
        all.append("\nwould");
        for (int set = 0; set < 1 << x.house(3); set++) all.append(' ').append(x.would(set));
        all.append("\nsound ").append(x.isSound()).append(" digest ").append(x.digest());
        return all.append(" knock ").append(x.knock()).toString();
    }
}
