import java.util.Arrays;

/** A stretch of the stream, as A would make it or otherwise. */
final class Bytes {
    private int[] made = new int[0];
    private int before = 0;

    Bytes raw(int... bytes) {
        int size = made.length;
        made = Arrays.copyOf(made, size + bytes.length);
        System.arraycopy(bytes, 0, made, size, bytes.length);
        return this;
    }

    Bytes header(int l) {
        return raw(l ^ 182, Model.h(l) ^ 171);
    }

    Bytes idle() {
        return header(0);
    }

    Bytes scrambled(int... bytes) {
        for (int b : bytes) {
            before ^= b;
            raw(before);
        }
        return this;
    }

    /** A frame as A sends it, of any number of bytes. */
    Bytes frame(int... bytes) {
        header(bytes.length + 1);
        scrambled(bytes);
        return scrambled(Model.checkOf(bytes, bytes.length));
    }

    /** Changes bits of the byte that is n behind the latest one. */
    Bytes flip(int n, int bits) {
        made[made.length - 1 - n] ^= bits;
        return this;
    }

    /** All of it, with idles behind it up to the next five. */
    int[] inFives() {
        int[] idle = {182, 171};
        for (int i = 0; made.length % 5 != 0; i++) {
            raw(idle[i % 2]);
        }
        return made;
    }

    int[] all() {
        return made;
    }
}
