/** Objects in each of the states that the document tells apart. */
enum States {
    NEW(false, NetUnfolder.NONE),
    NOT_UNFOLDED(false, NetUnfolder.NONE),
    WHOLE(true, NetUnfolder.NONE),
    WHOLE_AND_EMPTY(true, NetUnfolder.NONE),
    WITH_WAY(true, 2),
    WITH_EMPTY_WAY(true, 0),
    ANSWERED_NONE(true, NetUnfolder.NONE),
    SMALLER_THAN_BEFORE(true, NetUnfolder.NONE),
    NOT_SAFE(false, 3),
    NO_ROOM(false, NetUnfolder.NONE),
    CHANGED(false, NetUnfolder.NONE),
    CLEARED(false, NetUnfolder.NONE);

    final boolean whole;
    final int wayLength;

    States(boolean whole, int wayLength) {
        this.whole = whole;
        this.wayLength = wayLength;
    }

    boolean hasWay() {
        return wayLength != NetUnfolder.NONE;
    }

    boolean hasPrefix() {
        return whole || this == NOT_SAFE;
    }

    /** A new object each time, so that no object is used for too many calls. */
    NetUnfolder make() {
        NetUnfolder x = new NetUnfolder();
        if (this == NEW) {
            return x;
        }
        if (this == WHOLE_AND_EMPTY) {
            x.unfold();
            return x;
        }
        addNet(x);
        if (this != NOT_UNFOLDED) {
            x.unfold();
        }
        if (this == SMALLER_THAN_BEFORE) {
            x.first(49);
            x.unfold();
        }
        if (this == WITH_WAY || this == CHANGED || this == CLEARED) {
            x.reach(12);
        } else if (this == WITH_EMPTY_WAY) {
            x.reach(3);
        } else if (this == ANSWERED_NONE) {
            x.reach(12);
            x.reach(255);
        }
        if (this == CHANGED) {
            x.first(3);
        } else if (this == CLEARED) {
            x.clear();
        }
        return x;
    }

    private void addNet(NetUnfolder x) {
        if (this == NO_ROOM) {
            for (int k = 1; k < 5; k++) {
                x.transition(1 | 1 << k, 1);
            }
            x.first(31);
        } else if (this == NOT_SAFE) {
            x.transition(1, 4);
            x.transition(2, 8);
            x.transition(8, 4);
            x.first(3);
        } else {
            x.transition(3, 12);
            x.transition(1, 4);
            x.transition(2, 8);
            x.first(this == SMALLER_THAN_BEFORE ? 51 : 3);
        }
    }
}
