/** Whole pages as the document tells them, made without the program. */
final class Image {
    static final int BYTES = 48;

    private Image() {
    }

    static int[] empty() {
        return new int[BYTES];
    }

    /** A root; places: node number, page, node number, page .. */
    static int[] root(int version, int oldest, int... places) {
        int[] image = empty();
        image[0] = 1;
        number(image, 1, version);
        number(image, 5, oldest);
        return placed(image, 9, places);
    }

    /** A node; places: thing number, page, thing number, page .. */
    static int[] node(int number, int... places) {
        int[] image = empty();
        image[0] = 2;
        image[1] = number;
        return placed(image, 2, places);
    }

    static int[] thing(int key, int... text) {
        int[] image = empty();
        image[0] = 3;
        image[1] = key >> 8;
        image[2] = key & 255;
        image[3] = text.length;
        System.arraycopy(text, 0, image, 4, text.length);
        return sealed(image);
    }

    /** A copy with one byte of another value and a sum that fits it. */
    static int[] with(int[] image, int i, int b) {
        int[] changed = image.clone();
        changed[i] = b;
        return sealed(changed);
    }

    static int[] sealed(int[] image) {
        int s = 0;
        for (int i = 0; i < 44; i++) {
            s = Integer.rotateLeft(s ^ image[i], 9) * 0x27D4EB2F;
        }
        number(image, 44, s);
        return image;
    }

    /** Makes a page what the image is, by poke() (48 calls at least, 96 at most). */
    static void force(DesignPages x, int page, int[] image) {
        for (int i = 0; i < BYTES; i++) {
            int mask = x.byteAt(page, i) ^ image[i];
            if (mask != 0) {
                x.poke(page, i, mask);
            }
        }
    }

    /** So too for a page of zeros, without a look at it first (as many calls as bytes are not 0). */
    static void forceEmpty(DesignPages x, int page, int[] image) {
        for (int i = 0; i < BYTES; i++) {
            if (image[i] != 0) {
                x.poke(page, i, image[i]);
            }
        }
    }

    static void due(String what, DesignPages x, int page, int[] image) {
        for (int i = 0; i < BYTES; i++) {
            Check.due(what + ", page " + page + " byte " + i, x.byteAt(page, i), image[i]);
        }
    }

    private static int[] placed(int[] image, int start, int[] places) {
        for (int i = 0; i + 1 < places.length; i += 2) {
            image[start + places[i]] = places[i + 1];
        }
        return sealed(image);
    }

    private static void number(int[] image, int i, int n) {
        image[i] = n >>> 24;
        image[i + 1] = n >>> 16 & 255;
        image[i + 2] = n >>> 8 & 255;
        image[i + 3] = n & 255;
    }
}
