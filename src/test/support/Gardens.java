/** Gardens that stand at an edge of the document. */
final class Gardens {
    private Gardens() {
    }

    /** Puts into the draft of an empty garden: 1 2 3 | 11 12 13 | 21 22 23 | 31 32 33 | 41 42 43 | 51 52 53 54. */
    static void putSixLeaves(PageGarden garden) {
        for (int leaf = 0; leaf < 6; leaf++) {
            for (int at = 1; at < 4; at++) {
                garden.put(10 * leaf + at, at);
            }
        }
        garden.put(54, 4);
    }

    /** Puts the fourth entry into each of the five leaves that putSixLeaves leaves with three. */
    static void fillSixLeaves(PageGarden garden) {
        for (int leaf = 0; leaf < 5; leaf++) {
            garden.put(10 * leaf + 4, 4);
        }
    }

    /**
     * Opens a reader that lets no bed be dug again, commits the keys to an empty garden, and then the first
     * key alone (two beds each time) until so many beds are left. The last leaf stays as it was.
     */
    static void useUp(PageGarden garden, int beds, int... keys) {
        garden.open();
        Check.committed(garden, keys);
        while (Check.beds(garden) > beds) {
            garden.begin();
            garden.put(keys[0], 0);
            garden.commit(3);
        }
        Check.due("beds that can be dug", Check.beds(garden), beds);
    }

    static PageGarden withBeds(int beds, int... keys) {
        PageGarden garden = new PageGarden();
        useUp(garden, beds, keys);
        return garden;
    }
}
