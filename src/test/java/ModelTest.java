import java.lang.reflect.InvocationTargetException;
import java.lang.reflect.Method;
import java.lang.reflect.Modifier;
import java.util.ArrayList;
import java.util.Arrays;
import java.util.HashMap;
import java.util.List;
import java.util.Map;
import java.util.Random;
import java.util.stream.IntStream;

// Runs of up to 512 calls, the same ones each time, on a Switchyard and on the Model: every answer must be the same.
// The first argument, if there is one, tells how many runs; the second one the seed of the first run.
public final class ModelTest {
    private static final int[] WRONG = {-1, -2, 0, 8, 14, 24, 61, 501, 5001, 65536, Integer.MAX_VALUE, Integer.MIN_VALUE};
    private static final Map<String, Method> SWITCHYARD = new HashMap<>();
    private static final Map<String, Method> MODEL = new HashMap<>();

    private final Check check;
    private final Random random;
    private final Switchyard x = new Switchyard();
    private final Model model = new Model();
    private final List<String> done = new ArrayList<>();
    private final int mostDelay;
    private final int mostRate;
    private final int mostCost;
    private final int[] addresses;
    private boolean isGood = true;

    private ModelTest(Check check, long seed) {
        this.check = check;
        random = new Random(seed);
        mostDelay = pick(1, 3, 20);
        mostRate = pick(20, 60, 200);
        mostCost = pick(2, 5, 50);
        addresses = new int[1 + random.nextInt(8)];
        for (int i = 0; i < addresses.length; i++) {
            addresses[i] = random.nextInt(65536);
        }
    }

    public static void main(String[] args) {
        int runs = args.length > 0 ? Integer.parseInt(args[0]) : 40;
        long seed = args.length > 1 ? Long.parseLong(args[1]) : 1;
        for (Method m : Switchyard.class.getDeclaredMethods()) {
            if (Modifier.isPublic(m.getModifiers())) {
                SWITCHYARD.put(m.getName(), m);
            }
        }
        for (Method m : Model.class.getDeclaredMethods()) {
            if (Modifier.isPublic(m.getModifiers())) {
                MODEL.put(m.getName(), m);
            }
        }
        Check check = new Check("ModelTest");
        IntStream.range(0, runs).parallel().forEach(i -> new ModelTest(check, seed + i).run(seed + i));
        check.end();
    }

    private int pick(int... of) {
        return of[random.nextInt(of.length)];
    }

    private int from(int least, int most) {
        return least + random.nextInt(most - least + 1);
    }

    private void run(long seed) {
        call("digest");
        grow();
        while (done.size() < 512 && isGood) {
            change();
            for (int asks = random.nextInt(3); asks > 0; asks--) {
                ask();
            }
            if (random.nextInt(6) == 0) {
                call("digest");
            }
        }
        if (!isGood) {
            System.out.println("run " + seed + ": " + done.size() + " calls, the last ones: "
                + done.subList(Math.max(0, done.size() - 12), done.size()));
        }
    }

    // most runs begin with a network, so that there is something to ask for
    private void grow() {
        int routers = from(0, 8);
        for (int i = 0; i < routers; i++) {
            call("addRouter");
        }
        if (routers > 1) {
            for (int i = 1; i < routers; i++) {
                if (random.nextInt(10) > 0) {
                    addLink(random.nextBoolean() ? i - 1 : random.nextInt(i), i);
                }
            }
            for (int i = from(0, 5); i > 0; i--) {
                addLink(random.nextInt(routers), random.nextInt(routers));
            }
            for (int i = from(0, 10); i > 0; i--) {
                addNetwork();
            }
            for (int i = from(0, 6); i > 0; i--) {
                addFlow();
            }
        }
    }

    private void change() {
        int what = random.nextInt(100);
        if (what < 30) {
            call("step", odd(pick(1, 1, 2, 3, 5, 8, 30)));
        } else if (what < 32) {
            call("addRouter");
        } else if (what < 35) {
            addLink(anyOf(model.routers()), anyOf(model.routers()));
        } else if (what < 40) {
            call("setCost", anyOf(model.links()), odd(from(1, mostCost)));
        } else if (what < 50) {
            call("setUp", anyOf(model.links()), random.nextInt(5) < 3);
        } else if (what < 56) {
            addNetwork();
        } else if (what < 60) {
            call("dropNetwork", anyOf(model.networks()));
        } else if (what < 65) {
            int[] prefix = prefix();
            call("addStatic", anyOf(model.routers()), prefix[0], prefix[1], anyOf(model.links()));
        } else if (what < 68) {
            call("dropStatic", anyOf(model.statics()));
        } else if (what < 76) {
            call("setPort", anyOf(model.links()), random.nextBoolean(), odd(from(0, 2)),
                odd(pick(50, 300, 700, 1500, 5000)), random.nextBoolean());
        } else if (what < 80) {
            call("setWeight", anyOf(model.links()), random.nextBoolean(), odd(from(0, 3)), odd(from(1, 4)));
        } else if (what < 84) {
            addFlow();
        } else if (what < 92) {
            call("schedule", anyOf(model.flows()), odd(model.time() + pick(0, 0, 1, 4, 5000, 5001, -1)),
                odd(pick(1, 1, 2, 3, 50)), odd(pick(1, 10, 30, 60)));
        } else {
            call("shape", anyOf(model.flows()), odd(pick(1, 30, 100, 500)), odd(pick(20, 300, 500, 1000, 5000)));
        }
    }

    private void addLink(int a, int b) {
        call("addLink", a, b, odd(from(1, mostCost)), odd(from(1, mostRate)), odd(from(1, mostDelay)));
    }

    private void addNetwork() {
        int[] prefix = prefix();
        call("addNetwork", anyOf(model.routers()), prefix[0], prefix[1]);
    }

    private void addFlow() {
        call("addFlow", anyOf(model.routers()), address(), odd(pick(20, 21, 100, 150, 250, 300, 499, 500)), odd(from(0, 3)));
        if (random.nextBoolean()) {
            call("schedule", model.flows() - 1, model.time() + from(0, 20), from(1, 4), from(1, 60));
        }
    }

    private int[] prefix() {
        int length = pick(0, 1, 2, 4, 7, 8, 12, 15, 16, from(0, 16));
        int mask = random.nextInt(20) == 0 ? -1 : -(1 << (16 - length));
        return new int[] {odd(address() & mask), odd(length)};
    }

    private int address() {
        int near = random.nextInt(3) == 0 ? 1 << random.nextInt(16) : 0;
        return odd(random.nextInt(12) == 0 ? random.nextInt(65536) : addresses[random.nextInt(addresses.length)] ^ near);
    }

    private int odd(int usual) {
        return random.nextInt(120) == 0 ? pick(WRONG) : usual;
    }

    private int anyOf(int count) {
        return odd(count == 0 || random.nextInt(60) == 0 ? count : random.nextInt(count));
    }

    private void ask() {
        int router = anyOf(model.routers());
        int other = anyOf(model.routers());
        int link = anyOf(model.links());
        int flow = anyOf(model.flows());
        boolean isAtB = random.nextBoolean();
        switch (random.nextInt(18)) {
            case 0 -> call("isUp", link);
            case 1 -> call("letterOf", router, other);
            case 2 -> call(List.of("letters", "isSettled", "time", "routers", "links", "networks", "statics", "flows")
                .get(random.nextInt(8)));
            case 3 -> call(random.nextBoolean() ? "distance" : "firstLinks", router, other);
            case 4 -> call(List.of("entries", "trieNodes", "trieDepth").get(random.nextInt(3)), router);
            case 5, 6 -> call("looks", router, address());
            case 7 -> call("found", router, address());
            case 8 -> call("sortOf", router, address());
            case 9 -> call("nextLink", router, flow);
            case 10 -> call("route", flow);
            case 11 -> call(random.nextBoolean() ? "waiting" : "sending", link, isAtB);
            case 12 -> call(random.nextBoolean() ? "queued" : "deficit", link, isAtB, odd(from(0, 3)));
            case 13 -> call("onLink", link);
            case 14 -> call(List.of("offered", "shaping", "tokens", "delivered", "latest", "meanLate", "outOfOrder")
                .get(random.nextInt(7)), flow);
            case 15 -> call("dropped", flow, odd(from(0, 6)));
            case 16 -> call("deliveredIn", flow, odd(pick(1, 2, 10, 60)));
            default -> call("settledIn", odd(pick(1, 2, 10, 60)));
        }
    }

    private void call(String name, Object... args) {
        if (done.size() >= 512 || !isGood) {
            return;
        }
        String text = name + Arrays.toString(args);
        String got = answer(SWITCHYARD.get(name), x, args);
        String due = answer(MODEL.get(name), model, args);
        done.add(text + " -> " + due);
        isGood = got.equals(due);
        check.count(isGood, text + " answered " + got + ", due is " + due);
    }

    private static String answer(Method method, Object object, Object[] args) {
        try {
            return String.valueOf(method.invoke(object, args));
        } catch (InvocationTargetException e) {
            return e.getCause().getClass().getName();
        } catch (IllegalAccessException e) {
            throw new IllegalStateException(e);
        }
    }
}
