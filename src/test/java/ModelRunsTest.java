import java.util.Random;
import java.util.function.Function;

/** Long runs of mixed calls, right and wrong ones, against the plain model: all promises together. */
public final class ModelRunsTest {
    private static final int RUNS = 400;
    /** An object has 512 calls at most, and a file in a single step takes up to 53 of them. */
    private static final int CALLS = 512 - 53;
    private static final Due due = new Due();

    private final Random random;
    private final String run;
    private final HearingDesk desk = new HearingDesk();
    private final PlainModel model = new PlainModel();
    private int calls = 0;

    private ModelRunsTest(int seed) {
        random = new Random(seed);
        run = "run " + seed + ", call ";
    }

    public static void main(String[] args) {
        for (int seed = 1; seed <= RUNS; seed++) {
            ModelRunsTest test = new ModelRunsTest(seed);
            while (test.calls < CALLS) {
                test.step();
            }
        }
        due.end();
    }

    private int upTo(int n) {
        return random.nextInt(n + 1);
    }

    /** Mostly within low..high, now and then just or far outside. */
    private int about(int low, int high) {
        switch (random.nextInt(24)) {
            case 0: return low - 1;
            case 1: return high + 1;
            case 2: return random.nextInt();
            default: return low + random.nextInt(high - low + 1);
        }
    }

    private double size() {
        double[] all = {0.0, 1.0, 8.0, -2.0, 0.01, 0.0102, 1e-6, 1e-5, 0.5, 1000.0, 1e80};
        return random.nextInt(3) == 0 ? random.nextGaussian() : all[random.nextInt(all.length)];
    }

    private void step() {
        String name = run + calls + ": ";
        int kind = random.nextInt(22);
        int a = about(0, 19);
        int b = about(0, 16);
        switch (kind) {
            case 0: both(name + "clear", upTo(5) == 0 ? x -> x.clear() : x -> x.count(1)); break;
            case 1: case 2: file(name); break;
            case 3: case 4: case 5: waves(name); break;
            case 6: both(name + "sample", x -> x.sample(16 * a + b)); break;
            case 7: both(name + "power", x -> x.power(a, b)); break;
            case 8: case 9: { int band = about(0, 3); both(name + "level", x -> x.level(a, band)); break; }
            case 10: ways(name); break;
            case 11: case 12: learn(name); break;
            case 13: { int k = about(0, 7); both(name + "forget", x -> x.forget(k)); break; }
            case 14: { int k = about(0, 4); int j = about(0, 4); both(name + "warp", x -> x.warp(k, j)); break; }
            case 15: case 16: both(name + "hear", x -> x.hear()); break;
            case 17: case 18: {
                int k = about(0, 3);
                int what = about(0, 5);
                both(name + "word", x -> x.word(k, what));
                break;
            }
            case 19: { int k = about(0, 3); both(name + "cost", x -> x.cost(k)); break; }
            default: { int what = about(0, 6); both(name + "count", x -> x.count(what)); break; }
        }
    }

    private void waves(String name) {
        int n = random.nextBoolean() ? 16 : about(1, 64);
        int step = about(0, 31);
        double a = size();
        both(name + "wave(" + n + ", " + step + ", " + a + ")", x -> x.wave(n, step, a));
    }

    private void ways(String name) {
        double threshold = random.nextInt(6) == 0 ? -size() : 0.0001 * Math.pow(10, upTo(6));
        int gap = about(1, 4);
        double limit = random.nextInt(6) == 0 ? size() : Math.pow(10, upTo(3));
        both(name + "ways(" + threshold + ", " + gap + ", " + limit + ")", x -> {
            x.ways(threshold, gap, limit);
            return 0;
        });
    }

    private void learn(String name) {
        int letter = about(97, 122);
        int f = about(0, 12);
        int n = about(1, 8);
        both(name + "learn(" + letter + ", " + f + ", " + n + ")", x -> x.learn(letter, f, n));
    }

    private void file(String name) {
        int channels = 1 + upTo(1);
        int bits = 8 + 8 * upTo(1);
        int width = channels * bits / 8;
        int[] data = new int[width * upTo(356 / width)];
        boolean quiet = random.nextBoolean();
        for (int i = 0; i < data.length; i++) {
            data[i] = quiet && i % 90 < 50 ? (bits == 8 ? 128 : 0) : random.nextInt(256);
        }
        int[] file = Wav.file(channels, 1000 + upTo(47000), bits, data);
        if (random.nextInt(3) == 0) {
            file[random.nextInt(44)] = random.nextInt(256);
        }
        int length = random.nextInt(8) == 0 ? upTo(file.length) : file.length;
        for (int at = 0; at < length; at += 8) {
            int from = at;
            long w = 0;
            for (int i = 7; i >= 0; i--) {
                w = w << 8 | (from + i < length ? file[from + i] : random.nextInt(256));
            }
            long octets = w;
            both(name + "octets", x -> x.octets(Math.min(8, length - from), octets));
        }
        if (random.nextInt(30) > 0) {
            both(name + "read", x -> x.read());
        }
        both(name + "place", x -> x.place());
    }

    /** The calls of the face, so that one and the same call goes to both. */
    private interface Face {
        int octets(int n, long w);

        int read();

        int place();

        int wave(int n, int step, double a);

        int clear();

        double sample(int i);

        double power(int f, int k);

        double level(int f, int b);

        void ways(double threshold, int gap, double limit);

        int learn(int letter, int f, int n);

        int forget(int k);

        double warp(int k, int j);

        int hear();

        int word(int k, int what);

        double cost(int k);

        int count(int what);
    }

    private static Face face(Object object) {
        return (Face) java.lang.reflect.Proxy.newProxyInstance(Face.class.getClassLoader(), new Class<?>[] {Face.class},
            (proxy, method, arguments) -> {
                try {
                    return object.getClass().getDeclaredMethod(method.getName(), method.getParameterTypes())
                        .invoke(object, arguments);
                } catch (java.lang.reflect.InvocationTargetException e) {
                    throw e.getCause();
                }
            });
    }

    private final Face deskFace = face(desk);
    private final Face modelFace = face(model);

    private void both(String name, Function<Face, Number> call) {
        calls++;
        due.text(name, answer(deskFace, call), answer(modelFace, call));
    }

    private static String answer(Face face, Function<Face, Number> call) {
        try {
            return call.apply(face).toString();
        } catch (RuntimeException e) {
            return "throws." + e.getClass().getSimpleName();
        }
    }
}
