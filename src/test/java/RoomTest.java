import java.lang.reflect.InvocationTargetException;
import java.lang.reflect.Method;
import java.lang.reflect.Modifier;
import java.util.NoSuchElementException;
import java.util.Random;

/** That no call throws but where the document says so, whatever its arguments, and that calls make next to nothing. */
public final class RoomTest {
    private static final int[] ODD = {0, 1, -1, 2, 3, 4, 5, 6, 7, 9, 10, 11, 12, 24, 59, 60, 61, 99, 100, 240, -2, 1000,
        Integer.MAX_VALUE, Integer.MIN_VALUE, 0x723b633b, 0x70000000, 0x793a6600, -1000000};
    private static final String[] HOUSES = {null, "r;c;p", "rs1;rs0;cf5z1;cr1f90m20h0z0;cf99m3h0;pe9:01;pb1;pe3",
        "r;r;cf99m9h0;cf99m9h0;cf99m9h0;p;p"};
    private static int wrong = 0;

    public static void main(String[] args) throws Exception {
        oddArguments();
        room();
        System.out.println(wrong == 0 ? "no call throws, none takes room" : wrong + " wrong");
        if (wrong > 0) System.exit(1);
    }

    private static void put(FedClocks x, String t, int sort) {
        x.end(0);
        for (int i = 0; i < t.length(); i += 20) {
            int[] w = new int[5];
            for (int k = i; k < Math.min(t.length(), i + 20); k++) w[(k - i) / 4] |= t.charAt(k) << 24 - 8 * (k % 4);
            x.feed(w[0], w[1], w[2], w[3], w[4]);
        }
        x.text(sort);
    }

    private static void oddArguments() throws Exception {
        Random r = new Random(7);
        for (String house : HOUSES)
            for (int round = 0; round < 12; round++) {
                FedClocks x = new FedClocks();
                if (house != null) put(x, house, 0);
                put(x, "y:f>5&!(k=1|p=2)?[f-h]*d;y:s/[f-f]", 1);
                x.taste(round % 2 - 1);
                Method[] all = FedClocks.class.getDeclaredMethods();
                java.util.Arrays.sort(all, java.util.Comparator.comparing(Method::getName));
                for (int i = 0; i < 460; i++) {
                    Method m = all[r.nextInt(all.length)];
                    if (Modifier.isPublic(m.getModifiers())) odd(x, m, r);
                }
            }
    }

    private static void odd(FedClocks x, Method m, Random r) throws Exception {
        Class<?>[] types = m.getParameterTypes();
        Object[] a = new Object[types.length];
        for (int i = 0; i < a.length; i++) {
            int v = ODD[r.nextInt(ODD.length)];
            a[i] = types[i] == int.class ? (Object) v : types[i] == long.class ? (Object) r.nextLong() : (Object) r.nextBoolean();
        }
        try {
            m.invoke(x, a);
        } catch (InvocationTargetException e) {
            if (m.getName().equals("clock") && e.getCause() instanceof NoSuchElementException) return;
            wrong++;
            System.out.println(m.getName() + java.util.Arrays.toString(a) + " threw " + e.getCause());
        }
    }

    private static void room() {
        com.sun.management.ThreadMXBean bean = (com.sun.management.ThreadMXBean) java.lang.management.ManagementFactory.getThreadMXBean();
        long id = Thread.currentThread().getId();
        FedClocks warm = new FedClocks();
        put(warm, HOUSES[2], 0);
        all(warm);
        FedClocks x = new FedClocks();
        put(x, HOUSES[2], 0);
        bean.getThreadAllocatedBytes(id);
        long before = bean.getThreadAllocatedBytes(id);
        all(x);
        long taken = bean.getThreadAllocatedBytes(id) - before;
        if (taken > 4096) {
            wrong++;
            System.out.println("calls took " + taken + " bytes");
        }
    }

    private static void all(FedClocks x) {
        x.fault(0);
        x.fault(1);
        x.go(60);
        x.crowds(60, 5);
        x.send(0, 1);
        x.undo();
        x.ahead(0, 60);
        x.starves(60, 0);
        x.wild(60, 1);
        x.full();
        x.kinds(0, 60);
        x.rota(12, -1);
        x.fewest(12);
        x.best(24, 0);
        x.shows(0);
        x.near(50);
        x.middle();
        x.ring(0);
        x.still();
        x.deaths(0);
        x.hear(1, 0);
        x.thief(0, 4, -1);
        x.lures(0, 1, 12, 1, -1);
        x.later(0);
        x.spared(24, 0);
        x.seen(0, 0);
        x.looks(0);
        x.child(0, 1);
        x.image();
        x.back();
        x.count(8);
    }
}
