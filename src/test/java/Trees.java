/** Texts of trees of a wanted size or depth. */
final class Trees {
    private Trees() {
    }

    /** A tree so deep, with one node at each depth. */
    static String chain(int depth) {
        return Check.repeat("(~ ", depth - 1) + "x" + Check.repeat(")", depth - 1);
    }

    /** The sum of so many leaves, as flat as can be: of twice as many nodes less one. */
    static String sum(int leaves, String leaf) {
        if (leaves == 1) {
            return leaf;
        }
        return "(+ " + sum(leaves / 2, leaf) + " " + sum(leaves - leaves / 2, leaf) + ")";
    }

    /** A tree of a size, as flat as can be. */
    static String ofSize(int size) {
        return size % 2 == 1 ? sum((size + 1) / 2, "x") : "(~ " + ofSize(size - 1) + ")";
    }

    static int nodes(String text) {
        int many = 0;
        while (nodeAt(text, many) >= 0) {
            many++;
        }
        return many;
    }

    /** Where node n begins; -1 if there are fewer. */
    static int nodeAt(String text, int n) {
        int left = n;
        for (int i = 0; i < text.length(); i++) {
            if (i == 0 || text.charAt(i - 1) == ' ') {
                if (left == 0) {
                    return i;
                }
                left--;
            }
        }
        return -1;
    }
}
