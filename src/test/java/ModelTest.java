import java.util.ArrayList;
import java.util.Arrays;
import java.util.HashMap;
import java.util.List;
import java.util.Map;
import java.util.Random;

// Long runs of calls, compared call by call with a second program that follows the document word by word,
// with lists and maps, and without a thought for speed.
public final class ModelTest {
    private static final int RUNS = 500;
    // Each call is followed by a digest, and an object is promised for 512 calls.
    private static final int CALLS = 256;

    private static final String[] METHODS = {
        "addLinkset", "failLink", "restoreLink", "acknowledge", "queueLength", "queued", "congestion", "isActive",
        "addRoute", "removeRoute", "setRouteState", "routeState", "currentRoutes", "currentLink", "send",
        "setHoldTime", "tick", "time", "isHeld", "heldMessages", "delivered", "overtaken", "unreachable",
        "congested", "lost", "spread", "undo", "errorCount"
    };
    // How often a method comes in each kind of run, in the order of METHODS.
    private static final int[][] WEIGHTS = {
        {4, 6, 8, 8, 1, 2, 1, 1, 12, 3, 8, 1, 2, 2, 30, 2, 8, 1, 2, 1, 1, 1, 1, 1, 1, 2, 6, 1},
        {3, 8, 9, 4, 1, 2, 1, 1, 6, 1, 4, 1, 1, 1, 90, 1, 5, 1, 1, 1, 1, 1, 1, 1, 1, 1, 2, 1},
        {3, 9, 12, 14, 1, 1, 1, 1, 6, 0, 3, 1, 1, 1, 50, 3, 2, 1, 1, 1, 1, 1, 1, 1, 1, 1, 1, 1},
        {4, 4, 4, 4, 4, 4, 4, 4, 4, 4, 4, 4, 4, 4, 4, 4, 4, 4, 4, 4, 4, 4, 4, 4, 4, 4, 4, 4}
    };

    public static void main(String[] args) {
        Map<String, Long> seen = new HashMap<>();
        for (int run = 0; run < RUNS; run++) {
            if (!agrees(run, seen)) {
                System.exit(1);
            }
        }
        // A comparison that never met these would prove little.
        for (String event : new String[] {"held lost", "queue lost", "congested", "unreachable", "overtaken",
                "released", "diverted", "dropped state", "REJECTED", "FULL"}) {
            if (seen.getOrDefault(event, 0L) < 20) {
                System.out.println("the runs hardly meet: " + event);
                System.exit(1);
            }
        }
        System.out.println(RUNS + " runs agree with the model: " + seen);
    }

    private static boolean agrees(int run, Map<String, Long> seen) {
        Random random = new Random(9001L + run);
        int[] weights = WEIGHTS[run % WEIGHTS.length];
        int destinations = 1 + random.nextInt(6);
        int selectors = 1 + random.nextInt(16);
        double wrongShare = run % 4 == 3 ? 0.1 : 0.01;
        SignallingPoint point = new SignallingPoint();
        Model model = new Model(seen);
        StringBuilder told = new StringBuilder();
        for (int call = 0; call < CALLS; call++) {
            String method = call < 3 ? "addLinkset" : call < 6 ? "addRoute" : pick(random, weights);
            int[] a = arguments(method, random, destinations, selectors);
            if (random.nextDouble() < wrongShare && a.length > 0) {
                int[] odd = {-1, 4, 5, 6, 10, 11, 16, Integer.MIN_VALUE, Integer.MAX_VALUE};
                a[random.nextInt(a.length)] = odd[random.nextInt(odd.length)];
            }
            int want = model.answer(method, a);
            int got = answer(point, method, a);
            told.append(method).append(Arrays.toString(a)).append(" = ").append(got).append('\n');
            long wantDigest = model.digest();
            long gotDigest = point.digest();
            if (got != want || gotDigest != wantDigest) {
                System.out.print(told);
                System.out.println("run " + run + ": due is " + want + "; digest " + gotDigest + ", due is " + wantDigest);
                return false;
            }
        }
        return true;
    }

    private static String pick(Random random, int[] weights) {
        int left = random.nextInt(Arrays.stream(weights).sum());
        int at = 0;
        while (left >= weights[at]) {
            left -= weights[at];
            at++;
        }
        return METHODS[at];
    }

    private static int[] arguments(String method, Random random, int destinations, int selectors) {
        int destination = random.nextInt(destinations);
        int selector = random.nextInt(selectors);
        int linkset = random.nextInt(random.nextInt(4) + 1);
        int link = random.nextInt(random.nextInt(4) + 1);
        return switch (method) {
            case "addLinkset" -> new int[] {1 + random.nextInt(4)};
            case "failLink", "restoreLink", "queueLength", "congestion", "isActive" -> new int[] {linkset, link};
            case "acknowledge" -> new int[] {linkset, link, 1 + random.nextInt(10)};
            case "queued" -> new int[] {linkset, link, random.nextInt(11)};
            case "addRoute", "setRouteState" -> new int[] {destination, linkset, random.nextInt(3)};
            case "removeRoute", "routeState" -> new int[] {destination, linkset};
            case "currentRoutes", "spread" -> new int[] {destination};
            case "currentLink", "isHeld" -> new int[] {destination, selector};
            case "send" -> new int[] {destination, selector, random.nextInt(4)};
            case "setHoldTime" -> new int[] {random.nextInt(10)};
            case "errorCount" -> new int[] {random.nextInt(3)};
            default -> new int[0];
        };
    }

    private static int answer(SignallingPoint x, String method, int[] a) {
        return switch (method) {
            case "addLinkset" -> x.addLinkset(a[0]);
            case "failLink" -> x.failLink(a[0], a[1]);
            case "restoreLink" -> x.restoreLink(a[0], a[1]);
            case "acknowledge" -> x.acknowledge(a[0], a[1], a[2]);
            case "queueLength" -> x.queueLength(a[0], a[1]);
            case "queued" -> x.queued(a[0], a[1], a[2]);
            case "congestion" -> x.congestion(a[0], a[1]);
            case "isActive" -> x.isActive(a[0], a[1]);
            case "addRoute" -> x.addRoute(a[0], a[1], a[2]);
            case "removeRoute" -> x.removeRoute(a[0], a[1]);
            case "setRouteState" -> x.setRouteState(a[0], a[1], a[2]);
            case "routeState" -> x.routeState(a[0], a[1]);
            case "currentRoutes" -> x.currentRoutes(a[0]);
            case "currentLink" -> x.currentLink(a[0], a[1]);
            case "send" -> x.send(a[0], a[1], a[2]);
            case "setHoldTime" -> x.setHoldTime(a[0]);
            case "tick" -> x.tick();
            case "time" -> x.time();
            case "isHeld" -> x.isHeld(a[0], a[1]);
            case "heldMessages" -> x.heldMessages();
            case "delivered" -> x.delivered();
            case "overtaken" -> x.overtaken();
            case "unreachable" -> x.unreachable();
            case "congested" -> x.congested();
            case "lost" -> x.lost();
            case "spread" -> x.spread(a[0]);
            case "undo" -> x.undo();
            case "errorCount" -> x.errorCount(a[0]);
            default -> throw new IllegalStateException(method);
        };
    }

    private record Stream(int destination, int selector) { }

    private record Message(int number, Stream stream) { }

    private record Route(int linkset, int priority, int state) { }

    private static final class Link {
        boolean active = true;
        List<Message> queue = new ArrayList<>();
    }

    private static final class World {
        int time = 0;
        int holdTime = 3;
        int sent = 0;
        int unreachable = 0;
        int congested = 0;
        int lost = 0;
        int overtaken = 0;
        List<Message> deliveries = new ArrayList<>();
        List<List<Link>> linksets = new ArrayList<>();
        List<List<Route>> routes = new ArrayList<>();
        Map<Stream, Integer> held = new HashMap<>();
        List<Message> buffer = new ArrayList<>();

        World copy() {
            World w = new World();
            w.time = time;
            w.holdTime = holdTime;
            w.sent = sent;
            w.unreachable = unreachable;
            w.congested = congested;
            w.lost = lost;
            w.overtaken = overtaken;
            w.deliveries.addAll(deliveries);
            for (List<Link> links : linksets) {
                List<Link> copied = new ArrayList<>();
                for (Link link : links) {
                    Link l = new Link();
                    l.active = link.active;
                    l.queue.addAll(link.queue);
                    copied.add(l);
                }
                w.linksets.add(copied);
            }
            for (List<Route> list : routes) {
                w.routes.add(new ArrayList<>(list));
            }
            w.held.putAll(held);
            w.buffer.addAll(buffer);
            return w;
        }
    }

    private static final class Model {
        private World w = new World();
        private final List<World> undo = new ArrayList<>();
        private final int[] errors = new int[3];
        private final Map<String, Long> seen;

        Model(Map<String, Long> seen) {
            this.seen = seen;
            for (int destination = 0; destination < 6; destination++) {
                w.routes.add(new ArrayList<>());
            }
        }

        private void saw(String event, int times) {
            seen.merge(event, (long) times, Long::sum);
        }

        int answer(String method, int[] a) {
            if (isInvalid(method, a)) {
                errors[0]++;
                return -2;
            }
            if (isRejected(method, a)) {
                errors[1]++;
                saw("REJECTED", 1);
                return -3;
            }
            if (method.equals("addLinkset") && w.linksets.size() == 4) {
                errors[2]++;
                saw("FULL", 1);
                return -4;
            }
            if (method.equals("undo")) {
                w = undo.remove(undo.size() - 1);
                return undo.size();
            }
            if (List.of("addLinkset", "failLink", "restoreLink", "acknowledge", "addRoute", "removeRoute",
                    "setRouteState", "send", "setHoldTime", "tick").contains(method)) {
                undo.add(w.copy());
                if (undo.size() > 4) {
                    undo.remove(0);
                    saw("dropped state", 1);
                }
                return change(method, a);
            }
            return look(method, a);
        }

        private static boolean outside(int value, int least, int most) {
            return value < least || value > most;
        }

        private boolean noLink(int[] a) {
            return outside(a[0], 0, w.linksets.size() - 1) || outside(a[1], 0, w.linksets.get(a[0]).size() - 1);
        }

        private boolean isInvalid(String method, int[] a) {
            return switch (method) {
                case "addLinkset" -> outside(a[0], 1, 4);
                case "failLink", "restoreLink", "queueLength", "congestion", "isActive" -> noLink(a);
                case "acknowledge" -> noLink(a) || outside(a[2], 1, 10);
                case "queued" -> noLink(a) || a[2] < 0;
                case "addRoute", "setRouteState" ->
                    outside(a[0], 0, 5) || outside(a[1], 0, w.linksets.size() - 1) || outside(a[2], 0, 2);
                case "removeRoute", "routeState" -> outside(a[0], 0, 5) || outside(a[1], 0, w.linksets.size() - 1);
                case "currentRoutes", "spread" -> outside(a[0], 0, 5);
                case "currentLink", "isHeld" -> outside(a[0], 0, 5) || outside(a[1], 0, 15);
                case "send" -> outside(a[0], 0, 5) || outside(a[1], 0, 15) || outside(a[2], 0, 3);
                case "setHoldTime" -> outside(a[0], 0, 9);
                case "errorCount" -> outside(a[0], 0, 2);
                default -> false;
            };
        }

        private boolean isRejected(String method, int[] a) {
            return switch (method) {
                case "failLink" -> !link(a).active;
                case "restoreLink" -> link(a).active;
                case "addRoute" -> route(a[0], a[1]) != null;
                case "removeRoute", "setRouteState" -> route(a[0], a[1]) == null;
                case "undo" -> undo.isEmpty();
                default -> false;
            };
        }

        private Link link(int[] a) {
            return w.linksets.get(a[0]).get(a[1]);
        }

        private Route route(int destination, int linkset) {
            for (Route r : w.routes.get(destination)) {
                if (r.linkset() == linkset) {
                    return r;
                }
            }
            return null;
        }

        private int look(String method, int[] a) {
            return switch (method) {
                case "queueLength" -> link(a).queue.size();
                case "queued" -> a[2] < link(a).queue.size() ? link(a).queue.get(a[2]).number() : -1;
                case "congestion" -> level(link(a));
                case "isActive" -> link(a).active ? 1 : 0;
                case "routeState" -> route(a[0], a[1]) == null ? -1 : route(a[0], a[1]).state();
                case "currentRoutes" -> mask(current(a[0]));
                case "currentLink" -> currentLink(new Stream(a[0], a[1]));
                case "time" -> w.time;
                case "isHeld" -> w.held.containsKey(new Stream(a[0], a[1])) ? 1 : 0;
                case "heldMessages" -> w.buffer.size();
                case "delivered" -> w.deliveries.size();
                case "overtaken" -> w.overtaken;
                case "unreachable" -> w.unreachable;
                case "congested" -> w.congested;
                case "lost" -> w.lost;
                case "spread" -> spread(a[0]);
                case "errorCount" -> errors[a[0]];
                default -> throw new IllegalStateException(method);
            };
        }

        private int change(String method, int[] a) {
            Map<Stream, Integer> before = links();
            switch (method) {
                case "addLinkset":
                    List<Link> links = new ArrayList<>();
                    for (int i = 0; i < a[0]; i++) {
                        links.add(new Link());
                    }
                    w.linksets.add(links);
                    return w.linksets.size() - 1;
                case "failLink":
                    link(a).active = false;
                    List<Message> taken = new ArrayList<>(link(a).queue);
                    link(a).queue.clear();
                    taken.forEach(this::dispatch);
                    return taken.size();
                case "restoreLink":
                    link(a).active = true;
                    return divert(before);
                case "acknowledge":
                    int count = Math.min(a[2], link(a).queue.size());
                    for (int i = 0; i < count; i++) {
                        deliver(link(a).queue.remove(0));
                    }
                    return count;
                case "addRoute":
                    w.routes.get(a[0]).add(new Route(a[1], a[2], 0));
                    return divert(before);
                case "removeRoute":
                    Route removed = route(a[0], a[1]);
                    w.routes.get(a[0]).remove(removed);
                    return removed.state();
                case "setRouteState":
                    Route old = route(a[0], a[1]);
                    w.routes.get(a[0]).remove(old);
                    w.routes.get(a[0]).add(new Route(a[1], old.priority(), a[2]));
                    if (a[2] < old.state()) {
                        divert(before);
                    }
                    return old.state();
                case "send":
                    return send(new Stream(a[0], a[1]), a[2]);
                case "setHoldTime":
                    int previous = w.holdTime;
                    w.holdTime = a[0];
                    return previous;
                default:
                    return tick();
            }
        }

        private static int level(Link link) {
            int n = link.queue.size();
            return n >= 8 ? 3 : n >= 6 ? 2 : n >= 4 ? 1 : 0;
        }

        private List<Integer> activeOf(int linkset) {
            List<Integer> active = new ArrayList<>();
            for (int i = 0; i < w.linksets.get(linkset).size(); i++) {
                if (w.linksets.get(linkset).get(i).active) {
                    active.add(i);
                }
            }
            return active;
        }

        /** The linksets of the current routes, in their order. */
        private List<Integer> current(int destination) {
            List<Route> usable = new ArrayList<>(w.routes.get(destination));
            usable.removeIf(r -> r.state() == 2 || activeOf(r.linkset()).isEmpty());
            if (usable.stream().anyMatch(r -> r.state() == 0)) {
                usable.removeIf(r -> r.state() != 0);
            }
            int lowest = usable.stream().mapToInt(Route::priority).min().orElse(0);
            return usable.stream().filter(r -> r.priority() == lowest).map(Route::linkset).sorted().toList();
        }

        private static int mask(List<Integer> linksets) {
            int mask = 0;
            for (int linkset : linksets) {
                mask |= 1 << linkset;
            }
            return mask;
        }

        private int currentLink(Stream stream) {
            List<Integer> routes = current(stream.destination());
            if (routes.isEmpty()) {
                return -1;
            }
            int linkset = routes.get(stream.selector() % routes.size());
            List<Integer> active = activeOf(linkset);
            return 4 * linkset + active.get((stream.selector() / routes.size()) % active.size());
        }

        private Map<Stream, Integer> links() {
            Map<Stream, Integer> links = new HashMap<>();
            for (int destination = 0; destination < 6; destination++) {
                for (int selector = 0; selector < 16; selector++) {
                    Stream stream = new Stream(destination, selector);
                    links.put(stream, currentLink(stream));
                }
            }
            return links;
        }

        private int spread(int destination) {
            return (int) links().entrySet().stream()
                .filter(e -> e.getKey().destination() == destination && e.getValue() != -1)
                .map(Map.Entry::getValue).distinct().count();
        }

        private int divert(Map<Stream, Integer> before) {
            if (w.holdTime == 0) {
                return 0;
            }
            Map<Stream, Integer> after = links();
            int diverted = 0;
            for (Stream stream : before.keySet()) {
                int old = before.get(stream);
                int present = after.get(stream);
                if (old != -1 && present != -1 && old != present) {
                    w.held.put(stream, w.time + w.holdTime);
                    diverted++;
                }
            }
            saw("diverted", diverted);
            return diverted;
        }

        private int send(Stream stream, int importance) {
            Message message = new Message(w.sent++, stream);
            int at = currentLink(stream);
            if (w.held.containsKey(stream)) {
                if (w.buffer.size() == 24) {
                    w.lost++;
                    saw("held lost", 1);
                } else {
                    w.buffer.add(message);
                }
            } else if (at != -1 && level(w.linksets.get(at / 4).get(at % 4)) > importance) {
                w.congested++;
                saw("congested", 1);
            } else {
                dispatch(message);
            }
            return message.number();
        }

        private void dispatch(Message message) {
            int at = currentLink(message.stream());
            if (at == -1) {
                w.unreachable++;
                saw("unreachable", 1);
                return;
            }
            List<Message> queue = w.linksets.get(at / 4).get(at % 4).queue;
            if (queue.size() == 10) {
                w.lost++;
                saw("queue lost", 1);
                return;
            }
            queue.add(message);
        }

        private void deliver(Message message) {
            for (Message earlier : w.deliveries) {
                if (earlier.stream().equals(message.stream()) && earlier.number() > message.number()) {
                    w.overtaken++;
                    saw("overtaken", 1);
                    break;
                }
            }
            w.deliveries.add(message);
        }

        private int tick() {
            w.time++;
            List<Stream> freed = new ArrayList<>();
            for (Map.Entry<Stream, Integer> e : w.held.entrySet()) {
                if (e.getValue() == w.time) {
                    freed.add(e.getKey());
                }
            }
            freed.forEach(w.held::remove);
            List<Message> out = new ArrayList<>(w.buffer);
            out.removeIf(m -> !freed.contains(m.stream()));
            w.buffer.removeAll(out);
            out.forEach(this::dispatch);
            saw("released", out.size());
            return out.size();
        }

        long digest() {
            List<Integer> values = new ArrayList<>(List.of(errors[0], errors[1], errors[2], undo.size(), w.time,
                w.holdTime, w.sent, w.deliveries.size(), w.overtaken));
            values.addAll(List.of(w.unreachable, w.congested, w.lost, w.linksets.size()));
            for (List<Link> links : w.linksets) {
                values.add(links.size());
                for (Link link : links) {
                    values.add(link.active ? 1 : 0);
                    values.add(link.queue.size());
                    link.queue.forEach(m -> values.add(m.number()));
                }
            }
            Map<Stream, Integer> links = links();
            for (int destination = 0; destination < 6; destination++) {
                for (int linkset = 0; linkset < w.linksets.size(); linkset++) {
                    Route r = route(destination, linkset);
                    values.add(r == null ? -1 : r.state());
                    values.add(r == null ? -1 : r.priority());
                }
                for (int selector = 0; selector < 16; selector++) {
                    Stream stream = new Stream(destination, selector);
                    values.add(links.get(stream));
                    values.add(w.held.containsKey(stream) ? 1 : 0);
                }
            }
            values.add(w.buffer.size());
            w.buffer.forEach(m -> values.add(m.number()));
            long h = 12144;
            for (int v : values) {
                h = 31 * h + v;
            }
            return h;
        }
    }
}
