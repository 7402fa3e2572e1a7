/** Files of samples for the tests, and how they are handed to a desk. */
final class Wav {
    private Wav() {
    }

    /** A file without fault, if channels, rate and bits are such as a FILE may have. */
    static int[] file(int channels, int rate, int bits, int... data) {
        int[] file = new int[44 + data.length];
        put(file, 0, 82, 73, 70, 70);
        number(file, 4, 4, file.length - 8);
        put(file, 8, 87, 65, 86, 69, 102, 109, 116, 32);
        number(file, 16, 4, 16);
        number(file, 20, 2, 1);
        number(file, 22, 2, channels);
        number(file, 24, 4, rate);
        number(file, 28, 4, (long) rate * channels * bits / 8);
        number(file, 32, 2, channels * bits / 8);
        number(file, 34, 2, bits);
        put(file, 36, 100, 97, 116, 97);
        number(file, 40, 4, data.length);
        put(file, 44, data);
        return file;
    }

    static void put(int[] file, int at, int... octets) {
        System.arraycopy(octets, 0, file, at, octets.length);
    }

    static int[] number(int[] file, int at, int n, long number) {
        for (int i = 0; i < n; i++) {
            file[at + i] = (int) (number >> (8 * i)) & 255;
        }
        return file;
    }

    static HearingDesk pour(HearingDesk desk, int... octets) {
        for (int at = 0; at < octets.length; at += 8) {
            int n = Math.min(8, octets.length - at);
            long w = 0;
            for (int i = 0; i < n; i++) {
                w |= (long) octets[at + i] << (8 * i);
            }
            desk.octets(n, w);
        }
        return desk;
    }
}
