import java.util.function.Supplier;

/** What the tests share: answers that are due, films put together by hand, texts on the tape. */
final class Check {
    private static int wrong = 0;
    private static int looked = 0;

    interface Numbered {
        void run(int v);
    }

    interface Deed {
        void run();
    }

    static void due(String what, long got, long want) {
        looked++;
        if (got != want) {
            wrong++;
            System.out.println(what + " answered " + got + ", due is " + want);
        }
    }

    static void due(String what, boolean got, boolean want) {
        due(what, got ? 1 : 0, want ? 1 : 0);
    }

    static void thrown(String what, Class<?> kind, Deed deed) {
        looked++;
        String got = "nothing";
        try {
            deed.run();
        } catch (RuntimeException e) {
            if (e.getClass() == kind && e.getStackTrace()[0].getClassName().startsWith("PictureHouse")) {
                return;
            }
            got = e.toString();
        }
        wrong++;
        System.out.println(what + " threw " + got + ", due is " + kind.getSimpleName());
    }

    static void passes(String what, Deed deed) {
        looked++;
        try {
            deed.run();
        } catch (RuntimeException e) {
            wrong++;
            System.out.println(what + " threw " + e + ", due is none");
        }
    }

    /** The least and the most pass; their neighbours outside and the farthest ints are refused. */
    private static void range(String what, Class<?> kind, int least, int most, Numbered call) {
        int[] inside = {least, most};
        int[] outside = {least - 1, most + 1, Integer.MIN_VALUE, Integer.MAX_VALUE};
        for (int v : inside) {
            passes(what + " of " + v, () -> call.run(v));
        }
        for (int v : outside) {
            thrown(what + " of " + v, kind, () -> call.run(v));
        }
    }

    static void numberRange(String what, int least, int most, Numbered call) {
        range(what, IndexOutOfBoundsException.class, least, most, call);
    }

    static void argumentRange(String what, int least, int most, Numbered call) {
        range(what, IllegalArgumentException.class, least, most, call);
    }

    static void noSuch(String what, Deed deed) {
        thrown(what, IndexOutOfBoundsException.class, deed);
    }

    static void badArgument(String what, Deed deed) {
        thrown(what, IllegalArgumentException.class, deed);
    }

    static void badState(String what, Deed deed) {
        thrown(what, IllegalStateException.class, deed);
    }

    static void end(String name) {
        System.out.println(name + ": " + looked + " answers, " + wrong + " not as due");
        if (wrong != 0) {
            System.exit(1);
        }
    }

    /** Eight bytes a call, for an object has but 512 calls. */
    static void onTape(House house, int... bytes) {
        for (int from = 0; from < bytes.length; from += 8) {
            int n = Math.min(8, bytes.length - from);
            long eight = 0;
            for (int i = n - 1; i >= 0; i--) {
                eight = eight << 8 | bytes[from + i] & 255;
            }
            house.feed(eight, n);
        }
    }

    static void text(House house, String text) {
        onTape(house, text.chars().toArray());
    }

    /** A film's bytes, a part of them from each of several houses that were made in the same way. */
    static int[] bytesOf(Supplier<House> houses, int f) {
        int[] all = new int[houses.get().film(f, 5)];
        for (int from = 0; from < all.length; from += 200) {
            House house = houses.get();
            house.bytes(f);
            for (int i = from; i < Math.min(from + 200, all.length); i++) {
                all[i] = house.tape(i);
            }
        }
        return all;
    }

    /** Joins rows of bytes. */
    static int[] join(int[]... rows) {
        int length = 0;
        for (int[] row : rows) {
            length += row.length;
        }
        int[] all = new int[length];
        int at = 0;
        for (int[] row : rows) {
            for (int b : row) {
                all[at++] = b;
            }
        }
        return all;
    }

    static int[] head(int coding, int width, int height, int rate, int many) {
        return new int[] {77, 70, coding, width / 8, height / 8, rate, many};
    }

    static int[] picture(int kind, int place, int step, Bits bits) {
        int[] data = bits.bytes();
        return join(new int[] {kind, place, step, data.length >> 8, data.length & 255}, data);
    }

    /** Reads such a film, which must be taken. */
    static int film(House house, int[]... rows) {
        onTape(house, join(rows));
        int f = house.read();
        due("a film by hand is taken", f >= 0, true);
        return f;
    }

    static Bits bits() {
        return new Bits();
    }

    /** Bits written one behind the other, as the document's Term 2 has them. */
    static final class Bits {
        private final StringBuilder bits = new StringBuilder();

        Bits code(int v) {
            String digits = Integer.toBinaryString(v + 1);
            bits.append("0".repeat(digits.length() - 1)).append(digits);
            return this;
        }

        Bits signed(int v) {
            return code(v > 0 ? 2 * v - 1 : -2 * v);
        }

        Bits eight(int v) {
            for (int i = 7; i >= 0; i--) {
                bits.append(v >> i & 1);
            }
            return this;
        }

        Bits raw(String more) {
            bits.append(more);
            return this;
        }

        /** So many blocks without levels. */
        Bits empty(int blocks) {
            for (int i = 0; i < blocks; i++) {
                code(0);
            }
            return this;
        }

        int length() {
            return bits.length();
        }

        int[] bytes() {
            int[] bytes = new int[(bits.length() + 7) / 8];
            for (int i = 0; i < bits.length(); i++) {
                bytes[i / 8] |= (bits.charAt(i) - '0') << (7 - i % 8);
            }
            return bytes;
        }
    }
}
