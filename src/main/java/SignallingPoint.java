import java.util.Arrays;

/**
 * A simulator of the traffic management of a signalling point.
 *
 * The outer class is the face: it checks the arguments, counts the errors and saves states for undo.
 * The traffic itself, with all that undo brings back, lives in State.
 */
public final class SignallingPoint {
    public static final int NONE = -1;
    public static final int INVALID = -2;
    public static final int REJECTED = -3;
    public static final int FULL = -4;
    public static final int ALLOWED = 0, RESTRICTED = 1, PROHIBITED = 2;

    private static final int MAX_LINKSETS = 4;
    private static final int MAX_LINKS = 4;
    // The highest bit in a mask of linksets or of links.
    private static final int LAST_PLACE = 3;
    private static final int QUEUE_ROOM = 10;
    private static final int HOLDING_ROOM = 24;
    private static final int DESTINATIONS = 6;
    private static final int SELECTORS = 16;
    private static final int STREAMS = DESTINATIONS * SELECTORS;
    private static final int MAX_PRIORITY = 2;
    private static final int MAX_IMPORTANCE = 3;
    private static final int FIRST_HOLD_TIME = 3;
    private static final int MAX_HOLD_TIME = 9;
    private static final int UNDO_DEPTH = 4;
    private static final long DIGEST_START = 12144L;

    private final State now;
    private final UndoStack undoStack;
    // One row for all improvements, so that none of them makes a new one.
    private final int[] linksBefore;
    private int invalidCalls;
    private int rejectedCalls;
    private int fullCalls;

    public SignallingPoint() {
        now = new State();
        undoStack = new UndoStack();
        linksBefore = new int[STREAMS];
    }

    // ---- linksets and links

    public int addLinkset(int links) {
        if (links < 1 || links > MAX_LINKS) {
            return invalid();
        }
        if (now.linksets >= MAX_LINKSETS) {
            return full();
        }
        undoStack.save(now);
        return now.appendLinkset(links);
    }

    public int failLink(int linkset, int link) {
        if (!now.hasLink(linkset, link)) {
            return invalid();
        }
        if (!now.linkWorks(linkset, link)) {
            return rejected();
        }
        undoStack.save(now);
        return now.changeOver(linkset, link);
    }

    public int restoreLink(int linkset, int link) {
        if (!now.hasLink(linkset, link)) {
            return invalid();
        }
        if (now.linkWorks(linkset, link)) {
            return rejected();
        }
        undoStack.save(now);
        now.listLinks(linksBefore);
        now.activate(linkset, link);
        return now.divertMoved(linksBefore);
    }

    public int acknowledge(int linkset, int link, int count) {
        if (!now.hasLink(linkset, link) || count < 1 || count > QUEUE_ROOM) {
            return invalid();
        }
        undoStack.save(now);
        return now.deliverOldest(linkPlace(linkset, link), count);
    }

    public int queueLength(int linkset, int link) {
        if (!now.hasLink(linkset, link)) {
            return invalid();
        }
        return now.queueLengths[linkPlace(linkset, link)];
    }

    public int queued(int linkset, int link, int index) {
        if (!now.hasLink(linkset, link) || index < 0) {
            return invalid();
        }
        int place = linkPlace(linkset, link);
        if (index >= now.queueLengths[place]) {
            return NONE;
        }
        return numberOf(now.queues[place * QUEUE_ROOM + index]);
    }

    public int congestion(int linkset, int link) {
        if (!now.hasLink(linkset, link)) {
            return invalid();
        }
        return now.congestionLevel(linkPlace(linkset, link));
    }

    public int isActive(int linkset, int link) {
        if (!now.hasLink(linkset, link)) {
            return invalid();
        }
        return now.linkWorks(linkset, link) ? 1 : 0;
    }

    // ---- routes

    public int addRoute(int destination, int linkset, int priority) {
        if (!now.canHaveRoute(destination, linkset) || priority < 0 || priority > MAX_PRIORITY) {
            return invalid();
        }
        int place = routePlace(destination, linkset);
        if (now.routeStates[place] != NONE) {
            return rejected();
        }
        undoStack.save(now);
        now.listLinks(linksBefore);
        now.routeStates[place] = ALLOWED;
        now.priorities[place] = priority;
        return now.divertMoved(linksBefore);
    }

    public int removeRoute(int destination, int linkset) {
        if (!now.canHaveRoute(destination, linkset)) {
            return invalid();
        }
        int place = routePlace(destination, linkset);
        int previous = now.routeStates[place];
        if (previous == NONE) {
            return rejected();
        }
        undoStack.save(now);
        now.routeStates[place] = NONE;
        now.priorities[place] = NONE;
        return previous;
    }

    public int setRouteState(int destination, int linkset, int state) {
        if (!now.canHaveRoute(destination, linkset) || state < ALLOWED || state > PROHIBITED) {
            return invalid();
        }
        int place = routePlace(destination, linkset);
        int previous = now.routeStates[place];
        if (previous == NONE) {
            return rejected();
        }
        undoStack.save(now);
        now.listLinks(linksBefore);
        now.routeStates[place] = state;
        if (state < previous) {
            now.divertMoved(linksBefore);
        }
        return previous;
    }

    public int routeState(int destination, int linkset) {
        if (!now.canHaveRoute(destination, linkset)) {
            return invalid();
        }
        return now.routeStates[routePlace(destination, linkset)];
    }

    public int currentRoutes(int destination) {
        if (!isDestination(destination)) {
            return invalid();
        }
        return now.routesTo(destination);
    }

    public int currentLink(int destination, int selector) {
        if (!isStream(destination, selector)) {
            return invalid();
        }
        return now.linkOver(now.routesTo(destination), selector);
    }

    // ---- messages and time

    public int send(int destination, int selector, int importance) {
        if (!isStream(destination, selector) || importance < 0 || importance > MAX_IMPORTANCE) {
            return invalid();
        }
        undoStack.save(now);
        return now.accept(destination, selector, importance);
    }

    public int setHoldTime(int ticks) {
        if (ticks < 0 || ticks > MAX_HOLD_TIME) {
            return invalid();
        }
        undoStack.save(now);
        int previous = now.holdTime;
        now.holdTime = ticks;
        return previous;
    }

    public int tick() {
        undoStack.save(now);
        now.time++;
        return now.releaseHeld();
    }

    public int time() {
        return now.time;
    }

    public int isHeld(int destination, int selector) {
        if (!isStream(destination, selector)) {
            return invalid();
        }
        return now.holds(streamPlace(destination, selector)) ? 1 : 0;
    }

    public int heldMessages() {
        return now.heldCount;
    }

    public int delivered() {
        return now.delivered;
    }

    public int overtaken() {
        return now.overtaken;
    }

    public int unreachable() {
        return now.unreachable;
    }

    public int congested() {
        return now.congested;
    }

    public int lost() {
        return now.lost;
    }

    public int spread(int destination) {
        if (!isDestination(destination)) {
            return invalid();
        }
        return now.countLinksTo(destination);
    }

    // ---- undo and errors

    public int undo() {
        if (undoStack.size == 0) {
            return rejected();
        }
        undoStack.takeBackInto(now);
        return undoStack.size;
    }

    public int errorCount(int kind) {
        switch (kind) {
            case 0:
                return invalidCalls;
            case 1:
                return rejectedCalls;
            case 2:
                return fullCalls;
            default:
                return invalid();
        }
    }

    public long digest() {
        long h = DIGEST_START;
        h = mix(h, invalidCalls);
        h = mix(h, rejectedCalls);
        h = mix(h, fullCalls);
        h = mix(h, undoStack.size);
        h = now.mixCounters(h);
        h = now.mixLinksets(h);
        for (int destination = 0; destination < DESTINATIONS; destination++) {
            h = now.mixDestination(h, destination);
        }
        return now.mixHolding(h);
    }

    private int invalid() {
        invalidCalls++;
        return INVALID;
    }

    private int rejected() {
        rejectedCalls++;
        return REJECTED;
    }

    private int full() {
        fullCalls++;
        return FULL;
    }

    private static boolean isDestination(int destination) {
        return destination >= 0 && destination < DESTINATIONS;
    }

    private static boolean isStream(int destination, int selector) {
        return isDestination(destination) && selector >= 0 && selector < SELECTORS;
    }

    private static int linkPlace(int linkset, int link) {
        return linkset * MAX_LINKS + link;
    }

    private static int routePlace(int destination, int linkset) {
        return destination * MAX_LINKSETS + linkset;
    }

    private static int streamPlace(int destination, int selector) {
        return destination * SELECTORS + selector;
    }

    // A message is kept as one number, so that a queue and its copies for undo need one row, not two.
    private static int messageOf(int number, int stream) {
        return number * STREAMS + stream;
    }

    private static int numberOf(int message) {
        return Math.floorDiv(message, STREAMS);
    }

    // floorMod, not %: its answer is a stream for every int, even after far more sends than are promised.
    private static int streamOf(int message) {
        return Math.floorMod(message, STREAMS);
    }

    /** The place of the set bit with this index in a mask that has more set bits than that. */
    private static int setBit(int mask, int index) {
        int left = index;
        // What is not found before the last place is there, so that every answer is a place.
        for (int place = 0; place < LAST_PLACE; place++) {
            if ((mask >> place & 1) == 1) {
                if (left == 0) {
                    return place;
                }
                left--;
            }
        }
        return LAST_PLACE;
    }

    private static long mix(long h, int v) {
        return 31L * h + v;
    }

    /** All that undo brings back, and the rules by which it changes. */
    private static final class State {
        private int time;
        private int holdTime;
        private int sent;
        private int delivered;
        private int overtaken;
        private int unreachable;
        private int congested;
        private int lost;
        private int linksets;
        private int heldCount;
        private final int[] linkCounts;
        // A bit mask of the active links of each linkset.
        private final int[] activeLinks;
        private final int[] queueLengths;
        private final int[] queues;
        // NONE where there is no route, in both rows.
        private final int[] routeStates;
        private final int[] priorities;
        // A stream is held while this time lies ahead, so the tick that ends it needs to change nothing here.
        private final int[] heldUntil;
        private final int[] highestDelivered;
        private final int[] holding;

        private State() {
            holdTime = FIRST_HOLD_TIME;
            linkCounts = new int[MAX_LINKSETS];
            activeLinks = new int[MAX_LINKSETS];
            queueLengths = new int[MAX_LINKSETS * MAX_LINKS];
            queues = new int[MAX_LINKSETS * MAX_LINKS * QUEUE_ROOM];
            routeStates = new int[DESTINATIONS * MAX_LINKSETS];
            priorities = new int[DESTINATIONS * MAX_LINKSETS];
            heldUntil = new int[STREAMS];
            highestDelivered = new int[STREAMS];
            holding = new int[HOLDING_ROOM];
            Arrays.fill(routeStates, NONE);
            Arrays.fill(priorities, NONE);
            Arrays.fill(highestDelivered, NONE);
        }

        private void copyFrom(State other) {
            time = other.time;
            holdTime = other.holdTime;
            sent = other.sent;
            delivered = other.delivered;
            overtaken = other.overtaken;
            unreachable = other.unreachable;
            congested = other.congested;
            lost = other.lost;
            linksets = other.linksets;
            heldCount = other.heldCount;
            copyRow(other.linkCounts, linkCounts);
            copyRow(other.activeLinks, activeLinks);
            copyRow(other.queueLengths, queueLengths);
            copyRow(other.queues, queues);
            copyRow(other.routeStates, routeStates);
            copyRow(other.priorities, priorities);
            copyRow(other.heldUntil, heldUntil);
            copyRow(other.highestDelivered, highestDelivered);
            copyRow(other.holding, holding);
        }

        private static void copyRow(int[] from, int[] to) {
            System.arraycopy(from, 0, to, 0, Math.min(from.length, to.length));
        }

        private boolean hasLinkset(int linkset) {
            return linkset >= 0 && linkset < linksets;
        }

        private boolean hasLink(int linkset, int link) {
            return hasLinkset(linkset) && link >= 0 && link < linkCounts[linkset];
        }

        private boolean canHaveRoute(int destination, int linkset) {
            return isDestination(destination) && hasLinkset(linkset);
        }

        private boolean linkWorks(int linkset, int link) {
            return (activeLinks[linkset] >> link & 1) == 1;
        }

        private boolean holds(int stream) {
            return heldUntil[stream] > time;
        }

        private int appendLinkset(int links) {
            int linkset = linksets;
            linkCounts[linkset] = links;
            activeLinks[linkset] = (1 << links) - 1;
            linksets++;
            return linkset;
        }

        private void activate(int linkset, int link) {
            activeLinks[linkset] |= 1 << link;
        }

        /** Returns the number of messages that the failed link had to give up. */
        private int changeOver(int linkset, int link) {
            activeLinks[linkset] &= ~(1 << link);
            int place = linkPlace(linkset, link);
            int count = queueLengths[place];
            queueLengths[place] = 0;
            // Nothing is appended to a failed link, so its old messages stay readable meanwhile.
            for (int i = 0; i < count; i++) {
                dispatch(queues[place * QUEUE_ROOM + i]);
            }
            return count;
        }

        private int congestionLevel(int place) {
            int length = queueLengths[place];
            if (length < 4) {
                return 0;
            }
            if (length < 6) {
                return 1;
            }
            return length < 8 ? 2 : 3;
        }

        private int routesTo(int destination) {
            int allowed = preferredRoutes(destination, ALLOWED);
            return allowed != 0 ? allowed : preferredRoutes(destination, RESTRICTED);
        }

        private int preferredRoutes(int destination, int state) {
            int lowest = MAX_PRIORITY + 1;
            int routes = 0;
            for (int linkset = 0; linkset < linksets; linkset++) {
                int place = routePlace(destination, linkset);
                if (routeStates[place] == state && activeLinks[linkset] != 0 && priorities[place] <= lowest) {
                    if (priorities[place] < lowest) {
                        routes = 0;
                    }
                    lowest = priorities[place];
                    routes |= 1 << linkset;
                }
            }
            return routes;
        }

        /** The link that a selector means when these are the current routes. */
        private int linkOver(int routes, int selector) {
            int m = Integer.bitCount(routes);
            if (m == 0) {
                return NONE;
            }
            int linkset = setBit(routes, selector % m);
            int a = Integer.bitCount(activeLinks[linkset]);
            if (a == 0) {
                return NONE;
            }
            return linkPlace(linkset, setBit(activeLinks[linkset], selector / m % a));
        }

        private int linkOfStream(int stream) {
            return linkOver(routesTo(stream / SELECTORS), stream % SELECTORS);
        }

        private int countLinksTo(int destination) {
            int routes = routesTo(destination);
            int used = 0;
            for (int selector = 0; selector < SELECTORS; selector++) {
                int place = linkOver(routes, selector);
                if (place != NONE) {
                    used |= 1 << place;
                }
            }
            return Integer.bitCount(used);
        }

        private void listLinks(int[] links) {
            for (int stream = 0; stream < STREAMS; stream++) {
                links[stream] = linkOfStream(stream);
            }
        }

        /** Returns the number of streams that are held because the improvement has moved them. */
        private int divertMoved(int[] before) {
            if (holdTime == 0) {
                return 0;
            }
            int diverted = 0;
            for (int stream = 0; stream < STREAMS; stream++) {
                if (before[stream] != NONE && before[stream] != linkOfStream(stream)) {
                    heldUntil[stream] = time + holdTime;
                    diverted++;
                }
            }
            return diverted;
        }

        /** Returns the number of the new message. */
        private int accept(int destination, int selector, int importance) {
            int number = sent;
            sent++;
            int stream = streamPlace(destination, selector);
            int message = messageOf(number, stream);
            if (holds(stream)) {
                hold(message);
                return number;
            }
            int place = linkOfStream(stream);
            if (place != NONE && congestionLevel(place) > importance) {
                congested++;
                return number;
            }
            dispatch(message);
            return number;
        }

        private void hold(int message) {
            if (heldCount >= HOLDING_ROOM) {
                lost++;
                return;
            }
            holding[heldCount] = message;
            heldCount++;
        }

        private void dispatch(int message) {
            int place = linkOfStream(streamOf(message));
            if (place == NONE) {
                unreachable++;
                return;
            }
            int length = queueLengths[place];
            if (length >= QUEUE_ROOM) {
                lost++;
                return;
            }
            queues[place * QUEUE_ROOM + length] = message;
            queueLengths[place] = length + 1;
        }

        /** Returns the number of messages whose streams are no longer held. */
        private int releaseHeld() {
            int count = heldCount;
            int kept = 0;
            for (int i = 0; i < count; i++) {
                int message = holding[i];
                if (holds(streamOf(message))) {
                    holding[kept] = message;
                    kept++;
                } else {
                    dispatch(message);
                }
            }
            heldCount = kept;
            return count - kept;
        }

        private int deliverOldest(int place, int most) {
            int length = queueLengths[place];
            int count = Math.min(most, length);
            int start = place * QUEUE_ROOM;
            for (int i = 0; i < count; i++) {
                deliver(queues[start + i]);
            }
            for (int i = count; i < length; i++) {
                queues[start + i - count] = queues[start + i];
            }
            queueLengths[place] = length - count;
            return count;
        }

        private void deliver(int message) {
            int stream = streamOf(message);
            int number = numberOf(message);
            delivered++;
            if (number < highestDelivered[stream]) {
                overtaken++;
            } else {
                highestDelivered[stream] = number;
            }
        }

        private long mixCounters(long start) {
            long h = mix(start, time);
            h = mix(h, holdTime);
            h = mix(h, sent);
            h = mix(h, delivered);
            h = mix(h, overtaken);
            h = mix(h, unreachable);
            h = mix(h, congested);
            return mix(h, lost);
        }

        private long mixLinksets(long start) {
            long h = mix(start, linksets);
            for (int linkset = 0; linkset < linksets; linkset++) {
                h = mix(h, linkCounts[linkset]);
                for (int link = 0; link < linkCounts[linkset]; link++) {
                    h = mix(h, linkWorks(linkset, link) ? 1 : 0);
                    h = mixQueue(h, linkPlace(linkset, link));
                }
            }
            return h;
        }

        private long mixQueue(long start, int place) {
            long h = mix(start, queueLengths[place]);
            for (int i = 0; i < queueLengths[place]; i++) {
                h = mix(h, numberOf(queues[place * QUEUE_ROOM + i]));
            }
            return h;
        }

        private long mixDestination(long start, int destination) {
            long h = start;
            for (int linkset = 0; linkset < linksets; linkset++) {
                h = mix(h, routeStates[routePlace(destination, linkset)]);
                h = mix(h, priorities[routePlace(destination, linkset)]);
            }
            int routes = routesTo(destination);
            for (int selector = 0; selector < SELECTORS; selector++) {
                h = mix(h, linkOver(routes, selector));
                h = mix(h, holds(streamPlace(destination, selector)) ? 1 : 0);
            }
            return h;
        }

        private long mixHolding(long start) {
            long h = mix(start, heldCount);
            for (int i = 0; i < heldCount; i++) {
                h = mix(h, numberOf(holding[i]));
            }
            return h;
        }
    }

    /** The latest saved states, in a ring that is made once: a new state takes the place of the oldest. */
    private static final class UndoStack {
        private final State[] ring;
        private int next;
        private int size;

        private UndoStack() {
            ring = new State[UNDO_DEPTH];
            for (int i = 0; i < UNDO_DEPTH; i++) {
                ring[i] = new State();
            }
        }

        private void save(State state) {
            ring[next].copyFrom(state);
            next = (next + 1) % UNDO_DEPTH;
            size = Math.min(size + 1, UNDO_DEPTH);
        }

        private void takeBackInto(State state) {
            next = (next + UNDO_DEPTH - 1) % UNDO_DEPTH;
            size--;
            state.copyFrom(ring[next]);
        }
    }
}
