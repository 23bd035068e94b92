import java.util.Arrays;
import java.util.IdentityHashMap;
import java.util.Random;

/**
 * Long runs of calls on the class, and the same calls on a second program that is written with the
 * machine's own arrays and lets the machine throw: each answer is compared, and fault() where it may change
 * and now and then elsewhere.
 */
public final class RealTablesTest {
    private static final int RUNS = 6000;
    /** What an object answers after its 512th call is free; one step makes at most four calls. */
    private static final int CALLS = 512, CALLS_OF_A_STEP = 4;
    private static final int ANSWERS = 28;

    private static int wrong = 0;

    public static void main(String[] args) {
        for (int run = 0; run < RUNS && wrong < 20; run++) {
            oneRun(run);
        }
        System.out.println(wrong == 0 ? "both programs agree" : wrong + " answers differ");
        if (wrong != 0) {
            System.exit(1);
        }
    }

    private static void oneRun(int run) {
        Calls calls = new Calls(new Random(run), run);
        if (run % 5 == 0) {
            calls.makeMany();
        }
        while (calls.used <= CALLS - CALLS_OF_A_STEP) {
            String told = calls.next();
            if (told != null) {
                wrong++;
                System.out.println("run " + run + ", call " + calls.used + ": " + told);
                return;
            }
        }
    }

    /** Makes up calls; few columns, so that what one call has made is met by the next. */
    private static final class Calls {
        final Random random;
        final int columns;
        final boolean bigTables;
        final PlanCopies x = new PlanCopies();
        final RealTables y = new RealTables();
        /** How many calls x has answered. */
        int used;

        Calls(Random random, int run) {
            this.random = random;
            this.columns = 2 + run % 7;
            this.bigTables = run % 3 == 0;
        }

        /** By made-up calls alone no run would come to 6000 items: this one stops a little below. */
        void makeMany() {
            for (int call = 0; call < 14; call++) {
                differ("deep(0, 10, 13, 30, 0)", x.deep(0, 10, 13, 30, 0), y.deep(0, 10, 13, 30, 0));
            }
        }

        int column() {
            int odd = random.nextInt(60);
            return odd == 0 ? 16 : odd == 1 ? -1 : odd == 2 ? 15 : random.nextInt(columns);
        }

        int kindAmong(int first, int last) {
            int odd = random.nextInt(50);
            return odd == 0 ? first - 1 : odd == 1 ? last + 1 : first + random.nextInt(last - first + 1);
        }

        /** Mostly the kind that the column has, so that not each call ends with CAST. */
        int kindFor(int column, int first, int last) {
            int kind = y.kind(column);
            if (kind == 9 && random.nextBoolean()) {
                kind = 8;
            }
            return kind >= first && kind <= last && random.nextInt(8) != 0 ? kind : kindAmong(first, last);
        }

        int index() {
            int odd = random.nextInt(40);
            return odd == 0 ? Integer.MAX_VALUE : odd == 1 ? Integer.MIN_VALUE : random.nextInt(6) - 1;
        }

        int count() {
            int odd = random.nextInt(30);
            if (odd == 0) {
                return random.nextBoolean() ? 31 : 30;
            }
            return odd == 1 ? -1 : random.nextInt(bigTables ? 20 : 6);
        }

        long bits() {
            long[] some = {0, 1, -1, 0x7F800000L, 0x7FC00001L, 0xFF800000L, 0xFF800001L, 0x80000000L,
                    0x7FF0000000000000L, 0x7FF0000000000001L, 0xFFF0000000000000L, Long.MIN_VALUE};
            return random.nextInt(3) == 0 ? random.nextLong() : some[random.nextInt(some.length)];
        }

        String differ(String call, long got, long want) {
            used++;
            return got == want ? null : call + " answered " + got + ", due is " + want;
        }

        String next() {
            int which = random.nextInt(ANSWERS);
            String told = which < 10 ? making(which) : which < 20 ? looking(which) : others(which);
            boolean mayChangeFault = which == 12 || which == 15 || which == 17 || which == 26;
            if (told != null || !mayChangeFault && random.nextInt(8) != 0) {
                return told;
            }
            return differ("fault()", x.fault(), y.fault);
        }

        String making(int which) {
            int a = column();
            int b = column();
            int i = index();
            int j = index();
            int n = count();
            int m = count();
            int l = count();
            int kind = kindAmong(0, 13);
            int rows = kindAmong(10, 13);
            switch (which) {
                case 0:
                case 1:
                    return differ("make(" + a + ", " + kind + ", " + n + ")", x.make(a, kind, n), y.make(a, kind, n));
                case 2:
                    return differ("deep(" + a + ", " + rows + ", " + n + ", " + m + ", " + l + ")",
                            x.deep(a, rows, n, m, l), y.deep(a, rows, n, m, l));
                case 3:
                    return differ("share(" + a + ", " + b + ")", x.share(a, b), y.share(a, b));
                case 4:
                    return differ("aside(" + a + ", " + b + ")", x.aside(a, b), y.aside(a, b));
                case 5:
                    return random.nextInt(3) != 0 ? null : differ("drop(" + a + ")", x.drop(a), y.drop(a));
                case 6:
                    return differ("grow(" + a + ", " + n + ")", x.grow(a, n), y.grow(a, n));
                case 7:
                    int number = random.nextInt(4);
                    int mark = kindAmong(0, 2);
                    return differ("thing(" + a + ", " + i + ", " + mark + ", " + number + ")",
                            x.thing(a, i, mark, number), y.thing(a, i, mark, number));
                case 8:
                    rows = kindFor(a, 10, 13);
                    return differ("row(" + a + ", " + rows + ", " + i + ", " + b + ")",
                            x.row(a, rows, i, b), y.row(a, rows, i, b));
                default:
                    rows = kindFor(b, 10, 13);
                    return differ("take(" + a + ", " + b + ", " + rows + ", " + j + ")",
                            x.take(a, b, rows, j), y.take(a, b, rows, j));
            }
        }

        String looking(int which) {
            int a = column();
            int i = index();
            int j = index();
            int k = index();
            int kind = kindFor(a, 0, 9);
            int plain = kindFor(a, 0, 7);
            int rows = kindFor(a, 10, 12);
            long bits = bits();
            switch (which) {
                case 10:
                    return differ("kind(" + a + ")", x.kind(a), y.kind(a));
                case 11:
                    kind = kindFor(a, 0, 13);
                    return differ("length(" + a + ", " + kind + ")", x.length(a, kind), y.length(a, kind));
                case 12:
                    return differ("read(" + a + ", " + kind + ", " + i + ")", x.read(a, kind, i), y.read(a, kind, i));
                case 13:
                    return differ("write(" + a + ", " + plain + ", " + i + ", " + bits + ")",
                            x.write(a, plain, i, bits), y.write(a, plain, i, bits));
                case 14:
                    return differ("marked(" + a + ", " + i + ")", x.marked(a, i), y.marked(a, i));
                case 15:
                    return differ("cell(" + a + ", " + rows + ", " + i + ", " + j + ")",
                            x.cell(a, rows, i, j), y.cell(a, rows, i, j));
                case 16:
                    rows = kindFor(a, 10, 11);
                    return differ("set(" + a + ", " + rows + ", " + i + ", " + j + ", " + bits + ")",
                            x.set(a, rows, i, j, bits), y.set(a, rows, i, j, bits));
                case 17:
                    return differ("deepest(" + a + ", " + i + ", " + j + ", " + k + ")",
                            x.deepest(a, i, j, k), y.deepest(a, i, j, k));
                case 18:
                    return differ("size(" + a + ")", x.size(a), y.size(a));
                default:
                    return differ("fill(" + a + ", " + plain + ", " + bits + ")",
                            x.fill(a, plain, bits), y.fill(a, plain, bits));
            }
        }

        String others(int which) {
            int a = column();
            int b = column();
            int i = index();
            int j = index();
            int n = index();
            int t = kindAmong(0, 7);
            switch (which) {
                case 20:
                case 21:
                    return differ("copy(" + a + ", " + i + ", " + b + ", " + j + ", " + n + ")",
                            x.copy(a, i, b, j, n), y.copy(a, i, b, j, n));
                case 22:
                case 23:
                    return differ("alike(" + a + ", " + b + ")", x.alike(a, b), y.alike(a, b));
                case 24:
                    return differ("trouble(" + t + ", " + n + ")", x.trouble(t, n), y.trouble(t, n));
                case 25:
                    int frames = kindAmong(1, 8);
                    String told = differ("raise(" + t + ", " + frames + ")", x.raise(t, frames), y.raise(t, frames));
                    told = told != null ? told : differ("passed()", x.passed(), y.passed);
                    return told != null ? told : differ("number()", x.number(), y.number);
                case 26:
                    return random.nextInt(20) != 0 ? null : differ("clear()", x.clear(), y.clear());
                default:
                    int what = kindAmong(0, 2);
                    return differ("told(" + what + ")", x.told(what), y.told(what));
            }
        }
    }

    private static class Thing {
        final int number;

        Thing(int number) {
            this.number = number;
        }
    }

    private static final class Marked extends Thing {
        Marked(int number) {
            super(number);
        }
    }

    private static final class Trouble extends RuntimeException {
        private static final long serialVersionUID = 1;
        final int number;

        Trouble(int number) {
            super(null, null, false, false);
            this.number = number;
        }
    }

    /** A call with a fault, told by the machine's exception. */
    private interface Call {
        long answer();
    }

    private static final class RealTables {
        static final Class<?>[] KINDS = {boolean[].class, byte[].class, short[].class, char[].class, int[].class,
                long[].class, float[].class, double[].class, Thing[].class, Marked[].class, int[][].class,
                double[][].class, Thing[][].class, int[][][].class};
        static final int[] ROW_KINDS = {4, 7, 8, 10};

        final Object[] columns = new Object[16];
        final Trouble[] troubles = new Trouble[8];
        int items;
        int things;
        int passed;
        int number = -1;
        int fault;

        static int faultOf(RuntimeException told) {
            if (told instanceof NullPointerException) {
                return 1;
            }
            if (told instanceof ClassCastException) {
                return 2;
            }
            if (told instanceof IndexOutOfBoundsException) {
                return 3;
            }
            if (told instanceof NegativeArraySizeException) {
                return 4;
            }
            if (told instanceof ArrayStoreException) {
                return 5;
            }
            if (told instanceof Trouble) {
                return 6;
            }
            throw told;
        }

        static int answer(Call call) {
            try {
                return (int) call.answer();
            } catch (RuntimeException told) {
                return -10 - faultOf(told);
            }
        }

        long bits(boolean outside, Call call) {
            fault = 0;
            if (outside) {
                fault = -2;
                return 0;
            }
            try {
                return call.answer();
            } catch (RuntimeException told) {
                fault = faultOf(told);
                return 0;
            }
        }

        static boolean no(int number, int first, int last) {
            return number < first || number > last;
        }

        static boolean noColumn(int column) {
            return no(column, 0, 15);
        }

        Object taken(int column, int kind) {
            return KINDS[kind].cast(columns[column]);
        }

        static Object newTable(int kind, int n) {
            return java.lang.reflect.Array.newInstance(KINDS[kind].getComponentType(), n);
        }

        static int lengthOf(Object table) {
            return java.lang.reflect.Array.getLength(table);
        }

        static int kindOf(Object table) {
            return table == null ? -1 : Arrays.asList(KINDS).indexOf(table.getClass());
        }

        int make(int column, int kind, int n) {
            if (noColumn(column) || no(kind, 0, 13) || n > 30) {
                return -2;
            }
            if (items >= 6000) {
                return -3;
            }
            return answer(() -> {
                columns[column] = newTable(kind, n);
                items += n;
                return 1;
            });
        }

        int deep(int column, int kind, int n, int m, int l) {
            boolean third = kind == 13;
            if (noColumn(column) || no(kind, 10, 13) || n > 30 || m > 30 || third && l > 30) {
                return -2;
            }
            if (Math.max(n, 0) * Math.max(m, 0) * (third ? Math.max(l, 0) : 1) > 400) {
                return -2;
            }
            if (items >= 6000) {
                return -3;
            }
            return answer(() -> {
                switch (kind) {
                    case 10:
                        columns[column] = new int[n][m];
                        break;
                    case 11:
                        columns[column] = new double[n][m];
                        break;
                    case 12:
                        columns[column] = new Thing[n][m];
                        break;
                    default:
                        columns[column] = new int[n][m][l];
                        break;
                }
                items += n + n * m + (third ? n * m * l : 0);
                return 1;
            });
        }

        int share(int column, int from) {
            if (noColumn(column) || noColumn(from)) {
                return -2;
            }
            columns[column] = columns[from];
            return 1;
        }

        int aside(int column, int from) {
            if (noColumn(column) || noColumn(from)) {
                return -2;
            }
            if (items >= 6000) {
                return -3;
            }
            columns[column] = copied(columns[from], new IdentityHashMap<>());
            return 1;
        }

        Object copied(Object item, IdentityHashMap<Object, Object> known) {
            if (item == null || item instanceof Thing) {
                return item;
            }
            if (!known.containsKey(item)) {
                int n = lengthOf(item);
                Object made = newTable(kindOf(item), n);
                items += n;
                known.put(item, made);
                System.arraycopy(item, 0, made, 0, n);
                if (made instanceof Object[] all) {
                    for (int i = 0; i < n; i++) {
                        all[i] = copied(all[i], known);
                    }
                }
            }
            return known.get(item);
        }

        int drop(int column) {
            if (noColumn(column)) {
                return -2;
            }
            int held = columns[column] == null ? 0 : 1;
            columns[column] = null;
            return held;
        }

        int kind(int column) {
            return noColumn(column) ? -2 : kindOf(columns[column]);
        }

        int length(int column, int kind) {
            if (noColumn(column) || no(kind, 0, 13)) {
                return -2;
            }
            return answer(() -> lengthOf(taken(column, kind)));
        }

        static long itemBits(Object table, int i) {
            if (table instanceof boolean[] marks) {
                return marks[i] ? 1 : 0;
            }
            if (table instanceof char[] codes) {
                return codes[i];
            }
            if (table instanceof float[] floats) {
                return Float.floatToIntBits(floats[i]);
            }
            if (table instanceof double[] doubles) {
                return Double.doubleToLongBits(doubles[i]);
            }
            if (table instanceof Thing[] some) {
                return some[i].number;
            }
            return java.lang.reflect.Array.getLong(table, i);
        }

        static void putBits(Object table, int i, long bits) {
            if (table instanceof boolean[] marks) {
                marks[i] = (bits & 1) == 1;
            } else if (table instanceof byte[] bytes) {
                bytes[i] = (byte) bits;
            } else if (table instanceof short[] shorts) {
                shorts[i] = (short) bits;
            } else if (table instanceof char[] codes) {
                codes[i] = (char) bits;
            } else if (table instanceof int[] ints) {
                ints[i] = (int) bits;
            } else if (table instanceof long[] longs) {
                longs[i] = bits;
            } else if (table instanceof float[] floats) {
                floats[i] = Float.intBitsToFloat((int) bits);
            } else {
                ((double[]) table)[i] = Double.longBitsToDouble(bits);
            }
        }

        long read(int column, int kind, int i) {
            return bits(noColumn(column) || no(kind, 0, 9), () -> itemBits(taken(column, kind), i));
        }

        int write(int column, int kind, int i, long bits) {
            if (noColumn(column) || no(kind, 0, 7)) {
                return -2;
            }
            return answer(() -> {
                putBits(taken(column, kind), i, bits);
                return 1;
            });
        }

        int thing(int column, int i, int marked, int number) {
            if (noColumn(column) || no(marked, 0, 2)) {
                return -2;
            }
            if (marked != 2 && things >= 3000) {
                return -3;
            }
            things += marked == 2 ? 0 : 1;
            Thing made = marked == 2 ? null : marked == 1 ? new Marked(number) : new Thing(number);
            return answer(() -> {
                Thing[] table = (Thing[]) columns[column];
                table[i] = made;
                return 1;
            });
        }

        int marked(int column, int i) {
            if (noColumn(column)) {
                return -2;
            }
            return answer(() -> ((Thing[]) columns[column])[i] instanceof Marked ? 1 : 0);
        }

        long cell(int column, int kind, int i, int j) {
            return bits(noColumn(column) || no(kind, 10, 12),
                    () -> itemBits(((Object[]) taken(column, kind))[i], j));
        }

        int set(int column, int kind, int i, int j, long bits) {
            if (noColumn(column) || no(kind, 10, 11)) {
                return -2;
            }
            return answer(() -> {
                putBits(((Object[]) taken(column, kind))[i], j, bits);
                return 1;
            });
        }

        long deepest(int column, int i, int j, int k) {
            return bits(noColumn(column), () -> ((int[][][]) columns[column])[i][j][k]);
        }

        int row(int column, int kind, int i, int from) {
            if (noColumn(column) || noColumn(from) || no(kind, 10, 13)) {
                return -2;
            }
            return answer(() -> {
                Object[] table = (Object[]) taken(column, kind);
                Object item = taken(from, ROW_KINDS[kind - 10]);
                table[i] = item;
                return 1;
            });
        }

        int take(int column, int from, int kind, int i) {
            if (noColumn(column) || noColumn(from) || no(kind, 10, 13)) {
                return -2;
            }
            return answer(() -> {
                columns[column] = ((Object[]) taken(from, kind))[i];
                return 1;
            });
        }

        int grow(int column, int n) {
            if (noColumn(column) || n > 30) {
                return -2;
            }
            if (items >= 6000) {
                return -3;
            }
            return answer(() -> {
                Object old = columns[column];
                int before = lengthOf(old);
                Object made = newTable(kindOf(old), n);
                items += n;
                System.arraycopy(old, 0, made, 0, Math.min(before, n));
                columns[column] = made;
                return 1;
            });
        }

        int copy(int column, int i, int other, int j, int n) {
            if (noColumn(column) || noColumn(other)) {
                return -2;
            }
            return answer(() -> {
                System.arraycopy(columns[column], i, columns[other], j, n);
                return n;
            });
        }

        int fill(int column, int kind, long bits) {
            if (noColumn(column) || no(kind, 0, 7)) {
                return -2;
            }
            return answer(() -> {
                Object table = taken(column, kind);
                int n = lengthOf(table);
                for (int i = 0; i < n; i++) {
                    putBits(table, i, bits);
                }
                return n;
            });
        }

        int size(int column) {
            return noColumn(column) ? -2 : sizeOf(columns[column]);
        }

        static int sizeOf(Object item) {
            if (item == null) {
                return 0;
            }
            if (item instanceof Thing) {
                return 1;
            }
            if (item instanceof Object[] all) {
                return Arrays.stream(all).mapToInt(RealTables::sizeOf).sum();
            }
            return lengthOf(item);
        }

        int alike(int column, int other) {
            if (noColumn(column) || noColumn(other)) {
                return -2;
            }
            Object one = columns[column];
            Object two = columns[other];
            return one == two ? 2 : text(one).equals(text(two)) ? 1 : 0;
        }

        /** All that alike() looks at, as a text. */
        static String text(Object item) {
            if (item == null) {
                return "-";
            }
            if (item instanceof Thing some) {
                return (item instanceof Marked ? "m" : "t") + some.number;
            }
            StringBuilder all = new StringBuilder().append(kindOf(item)).append('(');
            for (int i = 0; i < lengthOf(item); i++) {
                all.append(item instanceof Object[] items ? text(items[i]) : itemBits(item, i)).append(' ');
            }
            return all.append(')').toString();
        }

        int trouble(int t, int n) {
            if (no(t, 0, 7) || n < -1) {
                return -2;
            }
            int before = troubles[t] == null ? -1 : troubles[t].number;
            troubles[t] = n == -1 ? null : new Trouble(n);
            return before;
        }

        int raise(int t, int frames) {
            if (no(t, 0, 7) || no(frames, 1, 8)) {
                return -2;
            }
            passed = 0;
            number = -1;
            return answer(() -> {
                try {
                    return frame(t, 1, frames);
                } catch (Trouble own) {
                    number = own.number;
                    throw own;
                }
            });
        }

        long frame(int t, int at, int frames) {
            try {
                if (at == frames) {
                    throw troubles[t];
                }
                return frame(t, at + 1, frames);
            } finally {
                passed = passed * 10 + at;
            }
        }

        int clear() {
            int held = told(0);
            Arrays.fill(columns, null);
            Arrays.fill(troubles, null);
            passed = 0;
            number = -1;
            fault = 0;
            return held;
        }

        int told(int what) {
            switch (what) {
                case 0:
                    return (int) Arrays.stream(columns).filter(column -> column != null).count();
                case 1:
                    return items;
                case 2:
                    return things;
                default:
                    return -2;
            }
        }
    }
}
