import java.util.Arrays;
import java.util.function.Supplier;

/** The boundary cases of FILE, and of promises 2 (octets), 3 (read) and 4 (place). */
public final class FileEdgesTest {
    private static final Due due = new Due();

    public static void main(String[] args) {
        octetsAtOnce();
        octetsOfW();
        fourHundredOctets();
        numbersWithoutSign();
        spelledNumbers();
        octetsBehindTheFirst();
        sixteenAndOne();
        channels();
        rate();
        rateTimesTheNext();
        width();
        bits();
        octetsOfData();
        multipleOfTheWidth();
        eightBits();
        sixteenBits();
        twoChannels();
        noData();
        readMakesSamples();
        emptyWhateverComes();
        firstNumberInTheirOrder();
        shorterThan44();
        moreThan320Samples();
        noFile();
        placeOfTheLatest();
        due.end();
    }

    private static int[] mono() {
        return Wav.file(1, 8000, 8, 1, 2, 3, 4, 5, 6, 7, 8);
    }

    private static HearingDesk poured(int... octets) {
        return Wav.pour(new HearingDesk(), octets);
    }

    private static void samples(String name, HearingDesk desk, double... values) {
        due.same("read() of " + name, desk.read(), values.length);
        due.same("place() of " + name, desk.place(), -1);
        due.same("count(1) of " + name, desk.count(1), values.length);
        for (int i = 0; i < values.length; i++) {
            due.same("sample(" + i + ") of " + name, desk.sample(i), values[i]);
        }
    }

    private static void taken(String name, int samples, int... file) {
        HearingDesk desk = poured(file);
        due.same("read() of " + name, desk.read(), samples);
        due.same("place() of " + name, desk.place(), -1);
    }

    private static void fault(String name, int place, int... file) {
        HearingDesk desk = poured(file);
        due.thrown("read() of " + name, Due.ARGUMENT, desk::read);
        due.same("place() of " + name, desk.place(), place);
        due.same("count(0) after read() of " + name, desk.count(0), 0);
    }

    private static void octetsAtOnce() {
        due.sentence("Promise 2: the lowest n (1..8) OCTETS of w; IllegalArgumentException: n");
        for (int n = 1; n <= 8; n++) {
            HearingDesk desk = new HearingDesk();
            due.same("octets(" + n + ", -1)", desk.octets(n, -1L), n);
            due.same("octets(" + n + ", 0) again", desk.octets(n, 0L), 2 * n);
            due.same("count(0)", desk.count(0), 2 * n);
        }
        for (int n : new int[] {0, 9, -1, -8, 16, Integer.MIN_VALUE, Integer.MAX_VALUE}) {
            due.refused("octets(" + n + ", 1)", Due.ARGUMENT, HearingDesk::new, x -> x.octets(n, 1L));
            due.refused("octets(" + n + ", 1)", Due.ARGUMENT, Desks::busy, x -> x.octets(n, 1L));
            due.refused("octets(" + n + ", 1) at 400", Due.ARGUMENT, FileEdgesTest::full, x -> x.octets(n, 1L));
        }
    }

    private static void octetsOfW() {
        due.sentence("Promise 2: the lowest n OCTETS of w, the lowest first; FILE: OCTETS (0..255)");
        int[] file = Wav.file(1, 8000, 8, 0, 255, 1, 254, 127, 128, 129, 0, 255);
        double[] values = new double[9];
        for (int i = 0; i < 9; i++) {
            values[i] = (file[44 + i] - 128) / 128.0;
        }
        for (int n = 1; n <= 8; n++) {
            for (long above : new long[] {0L, -1L, 0x0123456789abcdefL}) {
                HearingDesk desk = new HearingDesk();
                for (int at = 0; at < file.length; at += n) {
                    int here = Math.min(n, file.length - at);
                    long w = above;
                    for (int i = here - 1; i >= 0; i--) {
                        w = w << 8 | file[at + i];
                    }
                    desk.octets(here, w);
                }
                samples("octets that come by " + n + " under " + above, desk, values);
            }
        }
        HearingDesk desk = poured(Arrays.copyOf(Wav.file(1, 8000, 8, new int[16]), 44));
        desk.octets(8, Long.MIN_VALUE);
        desk.octets(8, Long.MAX_VALUE);
        double most = 127 / 128.0;
        samples("the least and the greatest w", desk, -1.0, -1.0, -1.0, -1.0, -1.0, -1.0, -1.0, 0.0,
            most, most, most, most, most, most, most, -1 / 128.0);
    }

    private static HearingDesk full() {
        return poured(fullFile(400));
    }

    private static int[] fullFile(int length) {
        int[] data = new int[length - 44];
        for (int i = 0; i < data.length; i++) {
            data[i] = i * 7 & 255;
        }
        return Wav.file(1, 16000, 16, data);
    }

    private static void fourHundredOctets() {
        due.sentence("FILE: up to 400 OCTETS; Promise 2: IndexOutOfBoundsException: there would be more than 400");
        for (int n = 1; n <= 8; n++) {
            int more = n;
            HearingDesk desk = poured(new int[400 - n]);
            due.same("octets(" + n + ", 0) at " + (400 - n), desk.octets(n, 0L), 400);
            due.same("count(0)", desk.count(0), 400);
            due.refused("octets(" + n + ", -1) at 400", Due.INDEX, FileEdgesTest::full, x -> x.octets(more, -1L));
            int length = 400 - n + 1 & ~1;
            if (length + n > 400) {
                Supplier<HearingDesk> almost = () -> poured(fullFile(length));
                due.refused("octets(" + n + ", -1) at " + length, Due.INDEX, almost, x -> x.octets(more, -1L));
            }
        }
        HearingDesk desk = poured(new int[399]);
        due.thrown("octets(2, 0) at 399", Due.INDEX, () -> desk.octets(2, 0L));
        due.same("count(0) after it", desk.count(0), 399);
        due.same("octets(1, 0) at 399", desk.octets(1, 0L), 400);
        due.thrown("read() of 400", Due.ARGUMENT, desk::read);
        due.same("octets(8, 0) when they are gone", desk.octets(8, 0L), 8);
        taken("400 octets", 178, fullFile(400));
    }

    private static void numbersWithoutSign() {
        due.sentence("FILE: numbers of 4 and 2 octets are without a sign, the lowest octet first");
        int[] wide = Wav.file(1, 48000, 8);
        Wav.number(wide, 32, 2, 65535);
        Wav.number(wide, 28, 4, 48000L * 65535);
        fault("the greatest product, more than 31 bits", 32, wide);
        int[] half = Wav.file(1, 44741, 8);
        Wav.number(half, 32, 2, 65535);
        Wav.number(half, 28, 4, 44741L * 65535 - (1L << 31));
        fault("a product without its highest bit", 28, half);
        fault("a rate with its highest bit", 24, Wav.number(mono(), 24, 4, 0x80001f40L));
        fault("channels with their highest bit", 22, Wav.number(mono(), 22, 2, 0x8001));
        fault("a rate whose highest octet comes first", 24, Wav.number(mono(), 24, 4, 0x401f0000L));
        fault("channels whose highest octet comes first", 22, Wav.number(mono(), 22, 2, 0x0100));
        HearingDesk desk = poured(Wav.file(1, 0xabcd, 8));
        due.same("read() at a rate of two octets", desk.read(), 0);
        due.same("RATE", desk.count(3), 0xabcd);
    }

    private static void spelledNumbers() {
        due.sentence("FILE: 0-3: 82 73 70 70. 8-11: 87 65 86 69. 12-15: 102 109 116 32. 36-39: 100 97 116 97");
        for (int start : new int[] {0, 8, 12, 36}) {
            for (int at = start; at < start + 4; at++) {
                int right = mono()[at];
                for (int other : new int[] {right - 1, right + 1, right ^ 32, right ^ 128, 0, 255}) {
                    int[] file = mono();
                    file[at] = other;
                    fault("a file with " + other + " at " + at, start, file);
                }
            }
            int[] turned = mono();
            Wav.put(turned, start, mono()[start + 3], mono()[start + 2], mono()[start + 1], mono()[start]);
            fault("a file with " + start + " turned round", start, turned);
        }
    }

    private static void octetsBehindTheFirst() {
        due.sentence("FILE: 4-7: how many OCTETS are behind these");
        for (int data : new int[] {0, 1, 248, 320}) {
            int[] file = Wav.file(1, 8000, 8, new int[data]);
            taken(data + " octets of data", data, file);
            for (long said : new long[] {0, data + 35, data + 37, data + 44, data, 65536L + data + 36,
                (1L << 31) + data + 36, (1L << 32) - 1}) {
                fault(said + " said of " + data + " and 36", 4, Wav.number(file.clone(), 4, 4, said));
            }
        }
    }

    private static void sixteenAndOne() {
        due.sentence("FILE: 16-19: 16. 20-21: 1");
        for (long other : new long[] {0, 15, 17, 18, 40, 16 << 8, 16 + 256, 16 + 65536, 16 + (1L << 24),
            16 + (1L << 31)}) {
            fault("16-19 with " + other, 16, Wav.number(mono(), 16, 4, other));
        }
        for (int other : new int[] {0, 2, 3, 7, 256, 257, 65534, 65535, 0x8001}) {
            fault("20-21 with " + other, 20, Wav.number(mono(), 20, 2, other));
        }
    }

    private static void channels() {
        due.sentence("FILE: 22-23: CHANNELS, 1 or 2");
        for (int bits : new int[] {8, 16}) {
            taken("1 channel", 6, Wav.file(1, 8000, bits, new int[6 * bits / 8]));
            taken("2 channels", 3, Wav.file(2, 8000, bits, new int[6 * bits / 8]));
            fault("0 channels", 22, Wav.file(0, 8000, bits));
            fault("3 channels", 22, Wav.file(3, 8000, bits, new int[6 * bits / 8]));
            fault("257 channels", 22, Wav.file(257, 8000, bits));
            fault("258 channels", 22, Wav.file(258, 8000, bits));
            fault("65535 channels", 22, Wav.number(Wav.file(1, 8000, bits), 22, 2, 65535));
        }
    }

    private static void rate() {
        due.sentence("FILE: 24-27: RATE, 1000 to 48000");
        for (int channels = 1; channels <= 2; channels++) {
            for (int rate : new int[] {1000, 1001, 8000, 47999, 48000}) {
                HearingDesk desk = poured(Wav.file(channels, rate, 16, new int[8]));
                due.same("read() at " + rate, desk.read(), 4 / channels);
                due.same("RATE", desk.count(3), rate);
            }
            for (int rate : new int[] {0, 1, 999, 48001, 65536, 65536 + 8000, 96000}) {
                fault("a rate of " + rate, 24, Wav.file(channels, rate, 16, new int[8]));
            }
        }
        int[] greatest = Wav.number(mono(), 24, 4, (1L << 32) - 1);
        fault("the greatest rate", 24, Wav.number(greatest, 28, 4, (1L << 32) - 1));
    }

    private static void rateTimesTheNext() {
        due.sentence("FILE: 28-31: RATE times the next");
        for (int[] kind : new int[][] {{1, 8}, {1, 16}, {2, 8}, {2, 16}}) {
            int width = kind[0] * kind[1] / 8;
            for (int rate : new int[] {1000, 48000}) {
                int[] file = Wav.file(kind[0], rate, kind[1], new int[8]);
                taken("a product", 8 / width, file);
                long product = (long) rate * width;
                for (long other : new long[] {0, 1, product - 1, product + 1, 2 * product, product + 65536,
                    product + (1L << 31)}) {
                    fault("a product of " + other, 28, Wav.number(file.clone(), 28, 4, other));
                }
            }
        }
        fault("the product with what 32-33 should be", 28, Wav.number(mono(), 32, 2, 2));
    }

    private static int[] ofWidth(int channels, int bits, int width, int... data) {
        int[] file = Wav.number(Wav.file(channels, 8000, bits, data), 32, 2, width);
        return Wav.number(file, 28, 4, 8000L * width);
    }

    private static void width() {
        due.sentence("FILE: 32-33: CHANNELS times BITS / 8");
        for (int[] kind : new int[][] {{1, 8}, {1, 16}, {2, 8}, {2, 16}}) {
            int right = kind[0] * kind[1] / 8;
            taken("a width of " + right, 8 / right, ofWidth(kind[0], kind[1], right, new int[8]));
            for (int width : new int[] {0, 1, 2, 3, 4, 5, 8, 256 + right, 65535}) {
                if (width != right) {
                    fault("a width of " + width + " for " + right, 32, ofWidth(kind[0], kind[1], width, new int[8]));
                }
            }
        }
        fault("a width of 1 for 2 channels of 24 bits", 32, ofWidth(2, 24, 1));
    }

    private static void bits() {
        due.sentence("FILE: 34-35: BITS, 8 or 16");
        taken("8 bits", 4, Wav.file(1, 8000, 8, new int[4]));
        taken("16 bits", 2, Wav.file(1, 8000, 16, new int[4]));
        for (int bits : new int[] {0, 24, 32, 40, 8 + 256, 16 + 256, 8 + 32768}) {
            fault(bits + " bits", 34, Wav.file(1, 8000, bits));
        }
        for (int bits : new int[] {0, 4, 12, 20, 24, 32}) {
            fault("twice " + bits + " bits", 34, Wav.file(2, 8000, bits));
        }
    }

    private static void octetsOfData() {
        due.sentence("FILE: 40-43: how many OCTETS are behind these, and that is all");
        for (int data : new int[] {0, 2, 8, 356}) {
            int[] file = Wav.file(1, 8000, 16, new int[data]);
            taken(data + " octets", data / 2, file);
            for (long said : new long[] {data - 2, data - 1, data + 1, data + 2, data + 36, 65536 + data,
                (1L << 31) + data, (1L << 32) - 2}) {
                if (said >= 0) {
                    fault(said + " said of " + data, 40, Wav.number(file.clone(), 40, 4, said));
                }
            }
        }
        int[] behind = Wav.number(Wav.file(1, 8000, 16, 1, 2, 3, 4), 40, 4, 2);
        fault("octets behind those that are said", 40, behind);
    }

    private static void multipleOfTheWidth() {
        due.sentence("FILE: 40-43: a multiple of what 32-33 say");
        for (int[] kind : new int[][] {{1, 8}, {1, 16}, {2, 8}, {2, 16}}) {
            int width = kind[0] * kind[1] / 8;
            for (int data = 0; data <= 9; data++) {
                int[] file = Wav.file(kind[0], 8000, kind[1], new int[data]);
                if (data % width == 0) {
                    taken(data + " by " + width, data / width, file);
                } else {
                    fault(data + " by " + width, 40, file);
                }
            }
        }
    }

    private static void eightBits() {
        due.sentence("FILE: 8 BITS: an OCTET less 128, times 256; a SAMPLE is that divided by 32768.0");
        samples("8 bits", poured(Wav.file(1, 8000, 8, 0, 1, 127, 128, 129, 254, 255)),
            -32768 / 32768.0, -32512 / 32768.0, -256 / 32768.0, 0.0, 256 / 32768.0, 32256 / 32768.0, 32512 / 32768.0);
    }

    private static void sixteenBits() {
        due.sentence("FILE: 16 BITS: 2 octets with sign; a SAMPLE is that divided by 32768.0");
        samples("16 bits", poured(Wav.file(1, 8000, 16, 0, 0, 1, 0, 255, 0, 0, 1, 255, 127, 0, 128, 1, 128, 255, 255)),
            0.0, 1 / 32768.0, 255 / 32768.0, 256 / 32768.0, 32767 / 32768.0, -1.0, -32767 / 32768.0, -1 / 32768.0);
    }

    private static void twoChannels() {
        due.sentence("FILE: with 2 CHANNELS the first and second added, then halved, each divided before");
        samples("2 channels of 8 bits",
            poured(Wav.file(2, 8000, 8, 0, 0, 0, 255, 255, 0, 255, 255, 128, 129, 127, 128)),
            -1.0, -1 / 256.0, -1 / 256.0, 127 / 128.0, 1 / 256.0, -1 / 256.0);
        samples("2 channels of 16 bits",
            poured(Wav.file(2, 8000, 16, 0, 128, 0, 128, 255, 127, 255, 127, 0, 128, 255, 127,
                1, 0, 0, 0, 0, 0, 255, 255, 3, 0, 2, 0)),
            -1.0, 32767 / 32768.0, -1 / 65536.0, 1 / 65536.0, -1 / 65536.0, 5 / 65536.0);
    }

    private static void noData() {
        due.sentence("FILE: of 44 OCTETS, with no frame: no SAMPLES");
        for (int[] kind : new int[][] {{1, 8}, {1, 16}, {2, 8}, {2, 16}}) {
            HearingDesk desk = Desks.tones();
            desk.hear();
            Wav.pour(desk, Wav.file(kind[0], 9000, kind[1]));
            samples("44 octets", desk);
            due.same("RATE", desk.count(3), 9000);
            due.same("FRAMES", desk.count(2), 0);
            due.same("WORDS", desk.count(5), 0);
            due.thrown("sample(0)", Due.INDEX, () -> desk.sample(0));
            due.thrown("hear()", Due.STATE, desk::hear);
        }
    }

    private static void readMakesSamples() {
        due.sentence("Promise 3: the FILE becomes SAMPLES (and RATE; WORDS are gone): how many");
        HearingDesk desk = Desks.busy();
        due.same("WORDS before it", desk.count(5), 4);
        due.same("read()", desk.read(), 3);
        int[] left = {0, 3, 0, 22050, 3, 0, 0};
        for (int what = 0; what <= 6; what++) {
            due.same("count(" + what + ") after read()", desk.count(what), left[what]);
        }
        due.same("the first sample is that of the file", desk.sample(0), (513 + 1027) / 65536.0);
        due.thrown("sample(3), which there was before", Due.INDEX, () -> desk.sample(3));
        due.thrown("word(0, 0), which there was before", Due.ELEMENT, () -> desk.word(0, 0));
        due.same("wave(29, 0, 0.0) behind them", desk.wave(29, 0, 0.0), 32);
        HearingDesk other = poured(Wav.file(2, 22050, 16, 1, 2, 3, 4, 5, 6, 7, 8, 9, 10, 11, 12));
        other.read();
        other.wave(29, 0, 0.0);
        for (int b = 0; b < 4; b++) {
            due.same("level(0, " + b + ") is that of the file", desk.level(0, b), other.level(0, b));
        }
    }

    private static void emptyWhateverComes() {
        due.sentence("Promise 3: it is empty then, whatever comes");
        int[] fault = mono();
        fault[36] = 0;
        int[][] files = {mono(), fault, {}, {1, 2, 3}, Wav.file(1, 8000, 8, new int[321]), fullFile(400)};
        for (int[] file : files) {
            HearingDesk desk = poured(file);
            try {
                desk.read();
            } catch (IllegalArgumentException | IndexOutOfBoundsException e) {
                // other methods look at that
            }
            due.same("count(0) after a file of " + file.length, desk.count(0), 0);
            due.same("octets(1, 82)", desk.octets(1, 82L), 1);
            due.thrown("read() of one octet", Due.ARGUMENT, desk::read);
            due.same("place() of one octet", desk.place(), 1);
            due.thrown("read() of none", Due.ARGUMENT, desk::read);
            due.same("place() of none", desk.place(), 0);
            samples("the next file", Wav.pour(desk, Wav.file(1, 8000, 8, 64, 192)), -0.5, 0.5);
        }
    }

    private static void firstNumberInTheirOrder() {
        due.sentence("Promise 3: place() tells the first OCTET of the first number, in their order, that is not so");
        int[] starts = {0, 4, 8, 12, 16, 20, 22, 24, 28, 32, 34, 36, 40};
        for (int i = 0; i < starts.length; i++) {
            for (int j = i; j < starts.length; j++) {
                int[] file = mono();
                for (int k = i; k < starts.length; k += Math.max(1, j - i)) {
                    Wav.number(file, starts[k], 2, 60000);
                }
                // the width alone is seen by the product before it, the bits alone by the width
                int place = starts[i] == 32 ? 28 : starts[i] == 34 ? 32 : starts[i];
                fault("wrong numbers from " + starts[i] + " on", place, file);
            }
            int[] last = mono();
            last[starts[i] + 1] ^= 192;
            int place = starts[i] == 32 ? 28 : starts[i] == 34 ? 32 : starts[i];
            fault("an octet behind " + starts[i], place, last);
        }
        for (int start : new int[] {0, 4, 8, 12, 16, 24, 28, 36, 40}) {
            int[] last = mono();
            last[start + 3] ^= 64;
            fault("the last octet of " + start, start, last);
        }
    }

    private static void shorterThan44() {
        due.sentence("Promise 3: its length if it is shorter than 44");
        int[] whole = Wav.file(1, 8000, 8);
        for (int n = 0; n < 44; n++) {
            fault(n + " octets of a file", n, Arrays.copyOf(whole, n));
            fault(n + " octets that are wrong", n, new int[n]);
        }
        taken("44 octets", 0, whole);
        fault("44 octets that are wrong", 0, new int[44]);
        fault("44 octets of a longer file", 4, Arrays.copyOf(Wav.file(1, 8000, 8, 1), 44));
    }

    private static void moreThan320Samples() {
        due.sentence("Promise 3: IndexOutOfBoundsException: more than 320 SAMPLES");
        taken("319", 319, Wav.file(1, 8000, 8, new int[319]));
        taken("320", 320, Wav.file(1, 8000, 8, new int[320]));
        int[] data = new int[320];
        Arrays.fill(data, 128);
        data[0] = 0;
        data[319] = 255;
        HearingDesk most = poured(Wav.file(1, 8000, 8, data));
        due.same("read() of 320", most.read(), 320);
        due.same("sample(0)", most.sample(0), -1.0);
        due.same("sample(319)", most.sample(319), 127 / 128.0);
        due.same("FRAMES", most.count(2), 19);
        due.thrown("wave(1, 0, 1.0) behind 320", Due.INDEX, () -> most.wave(1, 0, 1.0));
        for (int n : new int[] {321, 322, 356}) {
            readRefused(n + " samples", Due.INDEX, -1, Wav.file(1, 9999, 8, new int[n]));
        }
        int[] wrong = Wav.number(Wav.file(1, 8000, 8, new int[321]), 40, 4, 320);
        fault("321 in a file with a fault", 40, wrong);
    }

    /** What is asked after it is answered as if it had not been made, but for place() and the octets. */
    private static void readRefused(String name, Class<?> thrown, int place, int... file) {
        HearingDesk desk = Wav.pour(Desks.heard(), file);
        due.thrown("read() of " + name, thrown, desk::read);
        due.same("place() after read() of " + name, desk.place(), place);
        due.same("count(0) after read() of " + name, desk.count(0), 0);
        due.texts("after read() of " + name, Answers.butTheFile(desk), Answers.butTheFile(Desks.heard()));
    }

    private static void noFile() {
        due.sentence("Promise 3: IllegalArgumentException: it is no FILE as said");
        readRefused("nothing", Due.ARGUMENT, 0);
        readRefused("four octets", Due.ARGUMENT, 4, 82, 73, 70, 70);
        readRefused("a wrong rate", Due.ARGUMENT, 24, Wav.file(1, 999, 8, new int[100]));
        readRefused("half a sample", Due.ARGUMENT, 40, Wav.file(1, 9999, 16, new int[101]));
        readRefused("400 octets", Due.ARGUMENT, 0, new int[400]);
    }

    private static void placeOfTheLatest() {
        due.sentence("Promise 4: as read() says, of the latest one; -1 if it was a FILE, or there was none");
        HearingDesk desk = new HearingDesk();
        due.same("place() of a new one", desk.place(), -1);
        Wav.pour(desk, 1, 2, 3);
        due.same("place() before the first read()", desk.place(), -1);
        due.thrown("read() of 3", Due.ARGUMENT, desk::read);
        due.same("place() of 3", desk.place(), 3);
        due.same("place() again", desk.place(), 3);
        desk.wave(64, 1, 1.0);
        desk.hear();
        desk.clear();
        Wav.pour(desk, mono());
        due.same("place() after other calls", desk.place(), 3);
        due.same("read() of a FILE", desk.read(), 8);
        due.same("place() of a FILE", desk.place(), -1);
        due.thrown("read() of nothing", Due.ARGUMENT, desk::read);
        due.same("place() of nothing", desk.place(), 0);
        Wav.pour(desk, Wav.file(1, 8000, 8, new int[321]));
        due.thrown("read() of 321", Due.INDEX, desk::read);
        due.same("place() of a FILE that is too long", desk.place(), -1);
        due.thrown("read() of a wrong rate", Due.ARGUMENT, () -> Wav.pour(desk, Wav.file(1, 999, 8)).read());
        due.same("place() of a wrong rate", desk.place(), 24);
        due.thrown("octets(0, 0)", Due.ARGUMENT, () -> desk.octets(0, 0L));
        due.same("place() after a refused call", desk.place(), 24);
    }
}
