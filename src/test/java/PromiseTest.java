// One method for each promise of the document: ordinary inputs, the edges that it names, and wrong inputs.
public final class PromiseTest {
    private static final int NONE = -1;
    private static final int INVALID = -2;
    private static final int REJECTED = -3;
    private static final int FULL = -4;
    private static final int LEAST = Integer.MIN_VALUE;
    private static final int MOST = Integer.MAX_VALUE;

    private static int wrong = 0;

    public static void main(String[] args) {
        promise1NewObject();
        promise2AddLinkset();
        promise3FailLink();
        promise3ChangeoverIgnoresCongestionAndHolding();
        promise4RestoreLink();
        promise4HoldTimeZeroDivertsNothing();
        promise5Acknowledge();
        promise6QueueLength();
        promise7Queued();
        promise8Congestion();
        promise9IsActive();
        promise10AddRoute();
        promise11RemoveRoute();
        promise12SetRouteState();
        promise12WorseStateHoldsNothing();
        promise13RouteState();
        promise14CurrentRoutes();
        promise15CurrentLink();
        promise16Send();
        promise16HeldComesBeforeCongestion();
        promise17SetHoldTime();
        promise18Tick();
        promise18ReleasedMessagesKeepTheirOrder();
        promise19Time();
        promise20IsHeld();
        promise21HeldMessages();
        promise22Delivered();
        promise23Overtaken();
        promise24Unreachable();
        promise25Congested();
        promise26Lost();
        promise27Spread();
        promise28Undo();
        promise28UndoBringsBackEverything();
        promise29ErrorCount();
        promise30Digest();
        promise30DigestOfQueuesAndRemovedRoutes();
        System.out.println(wrong == 0 ? "every promise is kept" : wrong + " answers are not as due");
        if (wrong != 0) {
            System.exit(1);
        }
    }

    private static void due(String what, long got, long want) {
        if (got != want) {
            wrong++;
            System.out.println(what + " answered " + got + ", due is " + want);
        }
    }

    /** One linkset for each number of links. */
    private static SignallingPoint pointWith(int... links) {
        SignallingPoint x = new SignallingPoint();
        for (int i = 0; i < links.length; i++) {
            due("addLinkset for a test", x.addLinkset(links[i]), i);
        }
        return x;
    }

    /** One linkset, with a route of destination 0 over it. */
    private static SignallingPoint simplePoint(int links) {
        SignallingPoint x = pointWith(links);
        due("addRoute for a test", x.addRoute(0, 0, 0), 0);
        return x;
    }

    private static void sendMany(SignallingPoint x, int count, int selector, int importance) {
        for (int i = 0; i < count; i++) {
            x.send(0, selector, importance);
        }
    }

    /** Streams 0 to 15 of destination 0 over two links; those of even selectors are held until time + 3. */
    private static SignallingPoint heldPoint() {
        SignallingPoint x = simplePoint(2);
        x.failLink(0, 0);
        due("1: hold time at first", x.restoreLink(0, 0), 8);
        return x;
    }

    private static void promise1NewObject() {
        SignallingPoint x = new SignallingPoint();
        due("1: time", x.time(), 0);
        due("1: held messages", x.heldMessages(), 0);
        due("1: delivered", x.delivered(), 0);
        due("1: overtaken", x.overtaken(), 0);
        due("1: unreachable", x.unreachable(), 0);
        due("1: congested", x.congested(), 0);
        due("1: lost", x.lost(), 0);
        for (int kind = 0; kind < 3; kind++) {
            due("1: errors of kind " + kind, x.errorCount(kind), 0);
        }
        for (int destination = 0; destination < 6; destination++) {
            due("1: routes", x.currentRoutes(destination), 0);
            for (int selector = 0; selector < 16; selector++) {
                due("1: link", x.currentLink(destination, selector), NONE);
                due("1: held", x.isHeld(destination, selector), 0);
            }
        }
        due("1: no linkset", x.queueLength(0, 0), INVALID);
        due("1: empty undo stack", x.undo(), REJECTED);
        due("1: hold time", x.setHoldTime(3), 3);
    }

    private static void promise2AddLinkset() {
        SignallingPoint x = new SignallingPoint();
        for (int links : new int[] {0, -1, 5, LEAST, MOST}) {
            due("2: links " + links, x.addLinkset(links), INVALID);
        }
        due("2: failed calls are not saved", x.undo(), REJECTED);
        due("2: 1 link", x.addLinkset(1), 0);
        due("2: 4 links", x.addLinkset(4), 1);
        due("2: 2 links", x.addLinkset(2), 2);
        due("2: 3 links", x.addLinkset(3), 3);
        due("2: a fifth", x.addLinkset(1), FULL);
        due("2: INVALID before FULL", x.addLinkset(5), INVALID);
        int[] links = {1, 4, 2, 3};
        for (int linkset = 0; linkset < 4; linkset++) {
            for (int link = 0; link < 5; link++) {
                int want = link < links[linkset] ? 1 : INVALID;
                due("2: link " + linkset + " " + link, x.isActive(linkset, link), want);
            }
        }
        due("2: undoable", x.undo(), 3);
        due("2: linkset 3 is gone", x.isActive(3, 0), INVALID);
        due("2: its number comes again", x.addLinkset(1), 3);
        due("2: with other links", x.isActive(3, 1), INVALID);
    }

    private static void promise3FailLink() {
        SignallingPoint x = simplePoint(2);
        for (int[] at : new int[][] {{-1, 0}, {1, 0}, {0, -1}, {0, 2}, {LEAST, 0}, {MOST, 0}, {0, LEAST}, {0, MOST}}) {
            due("3: no link " + at[0] + " " + at[1], x.failLink(at[0], at[1]), INVALID);
        }
        x.send(0, 1, 0);
        x.send(0, 0, 0);
        x.send(0, 2, 0);
        due("3: taken", x.failLink(0, 0), 2);
        due("3: failed", x.isActive(0, 0), 0);
        due("3: emptied", x.queueLength(0, 0), 0);
        due("3: appended", x.queueLength(0, 1), 3);
        due("3: first", x.queued(0, 1, 0), 0);
        due("3: second", x.queued(0, 1, 1), 1);
        due("3: third", x.queued(0, 1, 2), 2);
        due("3: again", x.failLink(0, 0), REJECTED);
        due("3: the last link", x.failLink(0, 1), 3);
        due("3: unreachable", x.unreachable(), 3);
        due("3: undoable", x.undo(), 3);
        due("3: queue is back", x.queueLength(0, 1), 3);
        due("3: link is back", x.isActive(0, 1), 1);
        due("3: counter is back", x.unreachable(), 0);
        due("3: an empty link", simplePoint(1).failLink(0, 0), 0);
    }

    private static void promise3ChangeoverIgnoresCongestionAndHolding() {
        SignallingPoint x = simplePoint(2);
        sendMany(x, 8, 0, 3);
        sendMany(x, 6, 1, 2);
        due("3: congested link", x.congestion(0, 1), 2);
        due("3: all taken", x.failLink(0, 0), 8);
        due("3: until the queue is full", x.queueLength(0, 1), 10);
        due("3: rest is lost", x.lost(), 4);
        due("3: none is congested", x.congested(), 0);

        SignallingPoint y = simplePoint(2);
        y.failLink(0, 0);
        y.send(0, 0, 0);
        y.restoreLink(0, 0);
        due("3: held stream", y.isHeld(0, 0), 1);
        due("3: taken from the other link", y.failLink(0, 1), 1);
        due("3: not put into the buffer", y.heldMessages(), 0);
        due("3: dispatched at once", y.queueLength(0, 0), 1);
        due("3: the stream stays held", y.isHeld(0, 0), 1);
    }

    private static void promise4RestoreLink() {
        SignallingPoint x = simplePoint(2);
        x.addRoute(5, 0, 2);
        for (int[] at : new int[][] {{-1, 0}, {1, 0}, {0, -1}, {0, 2}, {LEAST, 0}, {MOST, 0}, {0, LEAST}, {0, MOST}}) {
            due("4: no link " + at[0] + " " + at[1], x.restoreLink(at[0], at[1]), INVALID);
        }
        due("4: active", x.restoreLink(0, 0), REJECTED);
        sendMany(x, 2, 0, 0);
        x.failLink(0, 0);
        due("4: streams of both destinations", x.restoreLink(0, 0), 16);
        due("4: its queue is empty", x.queueLength(0, 0), 0);
        due("4: active again", x.isActive(0, 0), 1);
        due("4: twice", x.restoreLink(0, 0), REJECTED);
        due("4: even is held", x.isHeld(5, 14), 1);
        due("4: odd is not", x.isHeld(5, 15), 0);
        due("4: undoable", x.undo(), 3);
        due("4: failed again", x.isActive(0, 0), 0);
        due("4: not held again", x.isHeld(5, 14), 0);

        SignallingPoint y = simplePoint(1);
        y.failLink(0, 0);
        due("4: streams without a link before", y.restoreLink(0, 0), 0);
        due("4: are not held", y.isHeld(0, 0), 0);
    }

    private static void promise4HoldTimeZeroDivertsNothing() {
        SignallingPoint x = heldPoint();
        x.tick();
        x.setHoldTime(0);
        x.failLink(0, 0);
        due("4: hold time 0", x.restoreLink(0, 0), 0);
        due("4: held stays held", x.isHeld(0, 0), 1);
        x.tick();
        due("4: until its time", x.isHeld(0, 0), 1);
        x.tick();
        due("4: and no longer", x.isHeld(0, 0), 0);
    }

    private static void promise5Acknowledge() {
        SignallingPoint x = simplePoint(1);
        sendMany(x, 5, 0, 3);
        for (int count : new int[] {0, -1, 11, LEAST, MOST}) {
            due("5: count " + count, x.acknowledge(0, 0, count), INVALID);
        }
        for (int[] at : new int[][] {{-1, 0}, {1, 0}, {0, -1}, {0, 1}, {MOST, 0}, {0, MOST}}) {
            due("5: no link " + at[0] + " " + at[1], x.acknowledge(at[0], at[1], 1), INVALID);
        }
        due("5: two", x.acknowledge(0, 0, 2), 2);
        due("5: the oldest are gone", x.queued(0, 0, 0), 2);
        due("5: three are left", x.queueLength(0, 0), 3);
        due("5: last", x.queued(0, 0, 2), 4);
        due("5: more than there are", x.acknowledge(0, 0, 10), 3);
        due("5: none", x.acknowledge(0, 0, 1), 0);
        due("5: delivered", x.delivered(), 5);
        due("5: undoable though nothing changed", x.undo(), 3);
        due("5: still five", x.delivered(), 5);
        due("5: undo", x.undo(), 2);
        due("5: back to two", x.delivered(), 2);
        due("5: queue is back", x.queueLength(0, 0), 3);
        x.failLink(0, 0);
        due("5: a failed link has none", x.acknowledge(0, 0, 10), 0);

        SignallingPoint y = simplePoint(1);
        sendMany(y, 10, 0, 3);
        due("5: all ten", y.acknowledge(0, 0, 10), 10);

        SignallingPoint z = simplePoint(2);
        sendMany(z, 2, 1, 0);
        sendMany(z, 10, 0, 3);
        due("5: seven of ten", z.acknowledge(0, 0, 7), 7);
        for (int i = 0; i < 3; i++) {
            due("5: the rest moves up", z.queued(0, 0, i), 9 + i);
        }
        due("5: the next link's first", z.queued(0, 1, 0), 0);
        due("5: the next link's second", z.queued(0, 1, 1), 1);

        SignallingPoint last = pointWith(1, 1, 1, 4);
        last.addRoute(0, 3, 0);
        sendMany(last, 11, 3, 3);
        due("5: the very last queue, full", last.acknowledge(3, 3, 1), 1);
        due("5: moves up, too", last.queued(3, 3, 8), 9);
        due("5: and is emptied", last.acknowledge(3, 3, 10), 9);
    }

    private static void promise6QueueLength() {
        SignallingPoint x = simplePoint(2);
        for (int[] at : new int[][] {{-1, 0}, {1, 0}, {0, -1}, {0, 2}, {LEAST, 0}, {MOST, 0}, {0, LEAST}, {0, MOST}}) {
            due("6: no link " + at[0] + " " + at[1], x.queueLength(at[0], at[1]), INVALID);
        }
        for (int i = 0; i <= 10; i++) {
            due("6: length", x.queueLength(0, 1), i);
            x.send(0, 1, 3);
        }
        due("6: at most ten", x.queueLength(0, 1), 10);
        due("6: the other link", x.queueLength(0, 0), 0);
    }

    private static void promise7Queued() {
        SignallingPoint x = simplePoint(2);
        sendMany(x, 3, 0, 0);
        sendMany(x, 1, 1, 0);
        due("7: oldest", x.queued(0, 0, 0), 0);
        due("7: newest", x.queued(0, 0, 2), 2);
        due("7: behind the newest", x.queued(0, 0, 3), NONE);
        due("7: far behind", x.queued(0, 0, MOST), NONE);
        due("7: other link", x.queued(0, 1, 0), 3);
        due("7: negative", x.queued(0, 0, -1), INVALID);
        due("7: least", x.queued(0, 0, LEAST), INVALID);
        for (int[] at : new int[][] {{-1, 0}, {1, 0}, {0, -1}, {0, 2}, {MOST, 0}, {0, MOST}}) {
            due("7: no link " + at[0] + " " + at[1], x.queued(at[0], at[1], 99), INVALID);
        }
        x.acknowledge(0, 0, 3);
        due("7: acknowledged", x.queued(0, 0, 0), NONE);
    }

    private static void promise8Congestion() {
        SignallingPoint x = simplePoint(1);
        int[] levels = {0, 0, 0, 0, 1, 1, 2, 2, 3, 3, 3};
        for (int length = 0; length <= 10; length++) {
            due("8: level for " + length, x.congestion(0, 0), levels[length]);
            x.send(0, 0, 3);
        }
        for (int[] at : new int[][] {{-1, 0}, {1, 0}, {0, -1}, {0, 1}, {LEAST, 0}, {MOST, 0}, {0, LEAST}, {0, MOST}}) {
            due("8: no link " + at[0] + " " + at[1], x.congestion(at[0], at[1]), INVALID);
        }
    }

    private static void promise9IsActive() {
        SignallingPoint x = pointWith(1, 4);
        x.failLink(1, 2);
        int[] want = {1, 1, 0, 1};
        for (int link = 0; link < 4; link++) {
            due("9: link " + link, x.isActive(1, link), want[link]);
        }
        x.restoreLink(1, 2);
        due("9: restored", x.isActive(1, 2), 1);
        for (int[] at : new int[][] {{-1, 0}, {2, 0}, {0, -1}, {0, 1}, {1, 4}, {LEAST, 0}, {MOST, 0}, {0, LEAST}, {0, MOST}}) {
            due("9: no link " + at[0] + " " + at[1], x.isActive(at[0], at[1]), INVALID);
        }
    }

    private static void promise10AddRoute() {
        SignallingPoint x = pointWith(1, 1);
        for (int[] at : new int[][] {{-1, 0, 0}, {6, 0, 0}, {0, -1, 0}, {0, 2, 0}, {0, 0, -1}, {0, 0, 3},
                {LEAST, 0, 0}, {MOST, 0, 0}, {0, LEAST, 0}, {0, MOST, 0}, {0, 0, LEAST}, {0, 0, MOST}}) {
            due("10: wrong argument", x.addRoute(at[0], at[1], at[2]), INVALID);
        }
        due("10: first route", x.addRoute(5, 1, 2), 0);
        due("10: allowed", x.routeState(5, 1), 0);
        due("10: no stream had a link before", x.isHeld(5, 0), 0);
        due("10: twice", x.addRoute(5, 1, 0), REJECTED);
        due("10: INVALID before REJECTED", x.addRoute(5, 1, 3), INVALID);
        due("10: a preferred route moves all", x.addRoute(5, 0, 1), 16);
        due("10: the preferred one", x.currentRoutes(5), 1);
        due("10: held", x.isHeld(5, 15), 1);
        due("10: undoable", x.undo(), 3);
        due("10: the first one again", x.currentRoutes(5), 2);
        due("10: not held", x.isHeld(5, 15), 0);
        due("10: equal priority moves half", x.addRoute(5, 0, 2), 8);
        due("10: both", x.currentRoutes(5), 3);
        due("10: moved", x.isHeld(5, 0), 1);
        due("10: not moved", x.isHeld(5, 1), 0);
        due("10: for another destination", x.addRoute(4, 0, 0), 0);
        due("10: a less preferred route moves none", x.addRoute(4, 1, 1), 0);
    }

    private static void promise11RemoveRoute() {
        SignallingPoint x = pointWith(1, 1);
        x.addRoute(0, 0, 0);
        x.addRoute(0, 1, 1);
        for (int[] at : new int[][] {{-1, 0}, {6, 0}, {0, -1}, {0, 2}, {LEAST, 0}, {MOST, 0}, {0, LEAST}, {0, MOST}}) {
            due("11: wrong argument", x.removeRoute(at[0], at[1]), INVALID);
        }
        due("11: no route", x.removeRoute(1, 0), REJECTED);
        x.send(0, 0, 0);
        due("11: allowed", x.removeRoute(0, 0), 0);
        due("11: gone", x.routeState(0, 0), NONE);
        due("11: again", x.removeRoute(0, 0), REJECTED);
        due("11: the other route", x.currentRoutes(0), 2);
        due("11: nothing is held", x.isHeld(0, 0), 0);
        due("11: the queue stays", x.queueLength(0, 0), 1);
        x.setRouteState(0, 1, 1);
        due("11: restricted", x.removeRoute(0, 1), 1);
        due("11: undoable", x.undo(), 3);
        due("11: back", x.routeState(0, 1), 1);
        x.setRouteState(0, 1, 2);
        due("11: prohibited", x.removeRoute(0, 1), 2);
    }

    private static void promise12SetRouteState() {
        SignallingPoint x = pointWith(1, 1);
        x.addRoute(0, 0, 0);
        for (int[] at : new int[][] {{-1, 0, 0}, {6, 0, 0}, {0, -1, 0}, {0, 2, 0}, {0, 0, -1}, {0, 0, 3},
                {LEAST, 0, 0}, {MOST, 0, 0}, {0, LEAST, 0}, {0, MOST, 0}, {0, 0, LEAST}, {0, 0, MOST}}) {
            due("12: wrong argument", x.setRouteState(at[0], at[1], at[2]), INVALID);
        }
        due("12: no route", x.setRouteState(0, 1, 0), REJECTED);
        due("12: INVALID before REJECTED", x.setRouteState(0, 1, 3), INVALID);
        due("12: to restricted", x.setRouteState(0, 0, 1), 0);
        due("12: to prohibited", x.setRouteState(0, 0, 2), 1);
        due("12: the same", x.setRouteState(0, 0, 2), 2);
        due("12: to allowed", x.setRouteState(0, 0, 0), 2);
        due("12: no link before", x.isHeld(0, 0), 0);
        due("12: undoable", x.undo(), 3);
        due("12: prohibited again", x.routeState(0, 0), 2);
        due("12: also without a change", x.undo(), 2);
        due("12: still prohibited", x.routeState(0, 0), 2);
    }

    private static void promise12WorseStateHoldsNothing() {
        SignallingPoint x = pointWith(1, 1);
        x.addRoute(0, 0, 0);
        x.addRoute(0, 1, 1);
        x.setRouteState(0, 0, 1);
        due("12: rerouted at once", x.currentLink(0, 0), 4);
        due("12: not held", x.isHeld(0, 0), 0);
        x.setRouteState(0, 0, 1);
        due("12: no change holds nothing", x.isHeld(0, 0), 0);
        due("12: an improvement", x.setRouteState(0, 0, 0), 1);
        due("12: moved back", x.currentLink(0, 0), 0);
        due("12: held", x.isHeld(0, 0), 1);
        x.setRouteState(0, 0, 2);
        due("12: stays held", x.isHeld(0, 0), 1);
        x.tick();
        x.setRouteState(0, 0, 1);
        due("12: restricted does not move", x.currentLink(0, 0), 4);
        x.tick();
        x.tick();
        due("12: so its time is the first one", x.isHeld(0, 0), 0);

        SignallingPoint y = pointWith(1, 1);
        y.addRoute(3, 0, 0);
        y.addRoute(3, 1, 0);
        y.tick();
        y.tick();
        y.tick();
        y.setRouteState(3, 1, 1);
        y.setRouteState(3, 0, 2);
        due("12: prohibited to restricted", y.setRouteState(3, 0, 1), 2);
        due("12: shares the load again", y.isHeld(3, 2), 1);
        due("12: half of it", y.isHeld(3, 3), 0);
    }

    private static void promise13RouteState() {
        SignallingPoint x = pointWith(1, 1);
        x.addRoute(5, 1, 0);
        for (int state = 2; state >= 0; state--) {
            x.setRouteState(5, 1, state);
            due("13: state", x.routeState(5, 1), state);
        }
        due("13: no route over it", x.routeState(5, 0), NONE);
        due("13: no route there", x.routeState(0, 1), NONE);
        for (int[] at : new int[][] {{-1, 0}, {6, 0}, {0, -1}, {0, 2}, {LEAST, 0}, {MOST, 0}, {0, LEAST}, {0, MOST}}) {
            due("13: wrong argument", x.routeState(at[0], at[1]), INVALID);
        }
    }

    private static void promise14CurrentRoutes() {
        SignallingPoint x = pointWith(1, 2, 1, 1);
        for (int destination : new int[] {-1, 6, LEAST, MOST}) {
            due("14: wrong argument", x.currentRoutes(destination), INVALID);
        }
        due("14: no route", x.currentRoutes(2), 0);
        x.addRoute(2, 0, 2);
        x.addRoute(2, 1, 1);
        x.addRoute(2, 2, 1);
        x.addRoute(2, 3, 0);
        due("14: lowest priority", x.currentRoutes(2), 8);
        x.setRouteState(2, 3, 1);
        due("14: allowed only", x.currentRoutes(2), 6);
        x.failLink(1, 0);
        due("14: one active link is enough", x.currentRoutes(2), 6);
        x.failLink(1, 1);
        due("14: no active link", x.currentRoutes(2), 4);
        x.setRouteState(2, 2, 1);
        due("14: allowed before the priority", x.currentRoutes(2), 1);
        x.setRouteState(2, 0, 1);
        due("14: all are restricted", x.currentRoutes(2), 8);
        x.setRouteState(2, 3, 2);
        due("14: prohibited is not usable", x.currentRoutes(2), 4);
        x.removeRoute(2, 2);
        due("14: a removed one is not", x.currentRoutes(2), 1);
        x.failLink(0, 0);
        due("14: none is usable", x.currentRoutes(2), 0);
        due("14: the other destinations", x.currentRoutes(3), 0);
    }

    private static void promise15CurrentLink() {
        SignallingPoint x = pointWith(2, 1, 3, 4);
        for (int[] at : new int[][] {{-1, 0}, {6, 0}, {0, -1}, {0, 16}, {LEAST, 0}, {MOST, 0}, {0, LEAST}, {0, MOST}}) {
            due("15: wrong argument", x.currentLink(at[0], at[1]), INVALID);
        }
        due("15: no route", x.currentLink(5, 15), NONE);
        x.addRoute(5, 3, 0);
        x.addRoute(5, 2, 0);
        x.addRoute(5, 0, 0);
        x.failLink(2, 1);
        // m = 3 routes over the linksets 0, 2 and 3 with the active links {0, 1}, {0, 2} and {0, 1, 2, 3}.
        int[] want = {0, 8, 12, 1, 10, 13, 0, 8, 14, 1, 10, 15, 0, 8, 12, 1};
        for (int selector = 0; selector < 16; selector++) {
            due("15: selector " + selector, x.currentLink(5, selector), want[selector]);
        }
        due("15: another destination", x.currentLink(4, 0), NONE);
    }

    private static void promise16Send() {
        SignallingPoint x = simplePoint(1);
        for (int[] at : new int[][] {{-1, 0, 0}, {6, 0, 0}, {0, -1, 0}, {0, 16, 0}, {0, 0, -1}, {0, 0, 4},
                {LEAST, 0, 0}, {MOST, 0, 0}, {0, LEAST, 0}, {0, MOST, 0}, {0, 0, LEAST}, {0, 0, MOST}}) {
            due("16: wrong argument", x.send(at[0], at[1], at[2]), INVALID);
        }
        due("16: first", x.send(0, 15, 0), 0);
        due("16: unreachable gets a number", x.send(5, 0, 3), 1);
        due("16: third", x.send(0, 0, 3), 2);
        due("16: queued", x.queued(0, 0, 0), 0);
        due("16: queued behind it", x.queued(0, 0, 1), 2);
        due("16: counted", x.unreachable(), 1);
        due("16: undoable", x.undo(), 3);
        due("16: the number comes again", x.send(0, 0, 0), 2);

        for (int importance = 0; importance <= 3; importance++) {
            SignallingPoint y = simplePoint(1);
            sendMany(y, 12, 0, importance);
            int[] most = {4, 6, 8, 10};
            due("16: room for importance " + importance, y.queueLength(0, 0), most[importance]);
            due("16: the rest is congested", y.congested(), importance < 3 ? 12 - most[importance] : 0);
            due("16: or lost", y.lost(), importance < 3 ? 0 : 2);
            due("16: all have numbers", y.send(0, 0, 3), 12);
        }
    }

    private static void promise16HeldComesBeforeCongestion() {
        SignallingPoint x = simplePoint(2);
        sendMany(x, 4, 0, 0);
        x.failLink(0, 1);
        x.restoreLink(0, 1);
        due("16: stays on its link", x.isHeld(0, 0), 0);
        due("16: held", x.isHeld(0, 1), 1);
        x.failLink(0, 1);
        due("16: on a congested link", x.currentLink(0, 1), 0);
        due("16: level", x.congestion(0, 0), 1);
        due("16: number", x.send(0, 1, 0), 4);
        due("16: in the buffer", x.heldMessages(), 1);
        due("16: not congested", x.congested(), 0);
        x.failLink(0, 0);
        due("16: no link at all", x.send(0, 1, 0), 5);
        due("16: also in the buffer", x.heldMessages(), 2);
    }

    private static void promise17SetHoldTime() {
        SignallingPoint x = simplePoint(2);
        for (int ticks : new int[] {-1, 10, LEAST, MOST}) {
            due("17: wrong argument", x.setHoldTime(ticks), INVALID);
        }
        due("17: at first", x.setHoldTime(9), 3);
        due("17: then", x.setHoldTime(0), 9);
        due("17: undoable", x.undo(), 3);
        due("17: nine again", x.setHoldTime(1), 9);
        x.failLink(0, 0);
        x.restoreLink(0, 0);
        x.setHoldTime(5);
        due("17: held", x.isHeld(0, 0), 1);
        x.tick();
        due("17: for the time that was set then", x.isHeld(0, 0), 0);
        x.failLink(0, 0);
        x.restoreLink(0, 0);
        for (int i = 0; i < 4; i++) {
            x.tick();
        }
        due("17: four ticks of five", x.isHeld(0, 0), 1);
        x.tick();
        due("17: five ticks", x.isHeld(0, 0), 0);
    }

    private static void promise18Tick() {
        SignallingPoint x = simplePoint(1);
        due("18: nothing held", x.tick(), 0);
        due("18: undoable", x.undo(), 2);
        due("18: time is back", x.time(), 0);

        SignallingPoint y = heldPoint();
        y.send(0, 0, 0);
        y.send(0, 2, 0);
        due("18: first tick", y.tick(), 0);
        due("18: second tick", y.tick(), 0);
        y.failLink(0, 0);
        y.failLink(0, 1);
        due("18: third tick", y.tick(), 2);
        due("18: taken out though unreachable", y.unreachable(), 2);
        due("18: buffer is empty", y.heldMessages(), 0);
        y.undo();
        due("18: buffer is back", y.heldMessages(), 2);
        due("18: counter is back", y.unreachable(), 0);
        due("18: held is back", y.isHeld(0, 0), 1);

        SignallingPoint z = heldPoint();
        sendMany(z, 12, 0, 0);
        z.tick();
        z.tick();
        due("18: all at once", z.tick(), 12);
        due("18: congestion plays no role", z.congested(), 0);
        due("18: the queue is full", z.queueLength(0, 0), 10);
        due("18: the rest is lost", z.lost(), 2);
    }

    private static void promise18ReleasedMessagesKeepTheirOrder() {
        SignallingPoint x = heldPoint();
        x.tick();
        x.addLinkset(4);
        x.addRoute(1, 1, 0);
        x.failLink(1, 0);
        // From 1 + s % 3 to s % 4: only the selectors 9, 10 and 11 keep their link.
        due("18: held later", x.restoreLink(1, 0), 13);
        due("18: moves", x.isHeld(1, 0), 1);
        due("18: does not move", x.isHeld(1, 9), 0);
        x.send(1, 0, 0);
        x.send(0, 0, 0);
        x.send(1, 4, 0);
        x.send(0, 4, 0);
        x.send(0, 0, 0);
        x.tick();
        due("18: only those whose time has come", x.tick(), 3);
        due("18: the others stay", x.heldMessages(), 2);
        due("18: first", x.queued(0, 0, 0), 1);
        due("18: second", x.queued(0, 0, 1), 3);
        due("18: third", x.queued(0, 0, 2), 4);
        due("18: then the others", x.tick(), 2);
        due("18: first of them", x.queued(1, 0, 0), 0);
        due("18: second of them", x.queued(1, 0, 1), 2);
    }

    private static void promise19Time() {
        SignallingPoint x = new SignallingPoint();
        for (int i = 0; i < 20; i++) {
            due("19: time", x.time(), i);
            x.tick();
        }
        x.undo();
        due("19: undone", x.time(), 19);
    }

    private static void promise20IsHeld() {
        SignallingPoint x = heldPoint();
        for (int[] at : new int[][] {{-1, 0}, {6, 0}, {0, -1}, {0, 16}, {LEAST, 0}, {MOST, 0}, {0, LEAST}, {0, MOST}}) {
            due("20: wrong argument", x.isHeld(at[0], at[1]), INVALID);
        }
        for (int selector = 0; selector < 16; selector++) {
            due("20: held", x.isHeld(0, selector), 1 - selector % 2);
            due("20: other destination", x.isHeld(1, selector), 0);
        }
        x.tick();
        x.tick();
        due("20: two ticks of three", x.isHeld(0, 14), 1);
        x.failLink(0, 0);
        due("20: the time is replaced", x.restoreLink(0, 0), 8);
        x.tick();
        due("20: past the first time", x.isHeld(0, 14), 1);
        x.tick();
        due("20: before the second time", x.isHeld(0, 14), 1);
        x.tick();
        due("20: at the second time", x.isHeld(0, 14), 0);

        SignallingPoint y = heldPoint();
        y.setHoldTime(1);
        y.failLink(0, 0);
        y.restoreLink(0, 0);
        y.tick();
        due("20: an earlier time replaces a later one", y.isHeld(0, 0), 0);
    }

    private static void promise21HeldMessages() {
        SignallingPoint x = heldPoint();
        for (int i = 0; i < 24; i++) {
            due("21: messages", x.heldMessages(), i);
            x.send(0, 0, 0);
        }
        due("21: full", x.heldMessages(), 24);
        due("21: nothing lost", x.lost(), 0);
        due("21: one more", x.send(0, 2, 3), 24);
        due("21: stays full", x.heldMessages(), 24);
        due("21: lost", x.lost(), 1);
        x.send(0, 1, 0);
        due("21: a stream that is not held", x.queueLength(0, 1), 1);

        // The second tick moves message 1 to the front of the buffer; undo puts message 0 back there.
        SignallingPoint y = simplePoint(2);
        y.addLinkset(2);
        y.addRoute(1, 1, 0);
        y.setHoldTime(2);
        y.failLink(0, 0);
        y.restoreLink(0, 0);
        y.tick();
        y.failLink(1, 0);
        y.restoreLink(1, 0);
        y.send(0, 0, 0);
        y.send(1, 0, 0);
        due("21: the first is released", y.tick(), 1);
        due("21: the second stays", y.heldMessages(), 1);
        y.undo();
        due("21: both are back", y.heldMessages(), 2);
        due("21: the first again", y.tick(), 1);
        due("21: its number", y.queued(0, 0, 0), 0);
        due("21: the second at last", y.tick(), 1);
        due("21: its number, too", y.queued(1, 0, 0), 1);
    }

    private static void promise22Delivered() {
        SignallingPoint x = simplePoint(2);
        sendMany(x, 3, 0, 0);
        sendMany(x, 2, 1, 0);
        due("22: sent only", x.delivered(), 0);
        x.acknowledge(0, 0, 1);
        due("22: one", x.delivered(), 1);
        x.acknowledge(0, 1, 10);
        due("22: three", x.delivered(), 3);
        x.failLink(0, 0);
        due("22: changeover delivers nothing", x.delivered(), 3);
    }

    private static void promise23Overtaken() {
        SignallingPoint x = simplePoint(2);
        x.setHoldTime(0);
        x.failLink(0, 0);
        x.send(0, 0, 0);
        x.send(0, 0, 0);
        x.send(0, 1, 0);
        x.restoreLink(0, 0);
        x.send(0, 0, 0);
        x.send(0, 2, 0);
        x.acknowledge(0, 0, 10);
        due("23: in order so far", x.overtaken(), 0);
        x.acknowledge(0, 1, 1);
        due("23: the first", x.overtaken(), 1);
        x.acknowledge(0, 1, 1);
        due("23: the second", x.overtaken(), 2);
        x.acknowledge(0, 1, 1);
        due("23: another stream is not", x.overtaken(), 2);
        x.undo();
        x.undo();
        due("23: undone", x.overtaken(), 1);
        x.acknowledge(0, 1, 2);
        due("23: again", x.overtaken(), 2);
        due("23: delivered", x.delivered(), 5);

        SignallingPoint y = simplePoint(1);
        y.addRoute(1, 0, 0);
        y.send(1, 0, 0);
        y.send(0, 0, 0);
        y.send(1, 0, 0);
        y.acknowledge(0, 0, 3);
        due("23: in order", y.overtaken(), 0);

        SignallingPoint z = simplePoint(1);
        z.send(0, 0, 0);
        z.acknowledge(0, 0, 1);
        z.undo();
        z.undo();
        z.send(0, 0, 0);
        z.acknowledge(0, 0, 1);
        due("23: the same number again", z.overtaken(), 0);

        SignallingPoint v = simplePoint(2);
        v.setHoldTime(0);
        v.failLink(0, 0);
        v.send(0, 0, 0);
        v.restoreLink(0, 0);
        v.send(0, 0, 0);
        v.acknowledge(0, 0, 1);
        v.undo();
        v.acknowledge(0, 1, 1);
        due("23: what is undone overtakes nothing", v.overtaken(), 0);
    }

    private static void promise24Unreachable() {
        SignallingPoint x = pointWith(1);
        x.send(0, 0, 0);
        due("24: no route", x.unreachable(), 1);
        x.addRoute(0, 0, 0);
        x.setRouteState(0, 0, 2);
        x.send(0, 0, 0);
        due("24: prohibited", x.unreachable(), 2);
        x.setRouteState(0, 0, 1);
        x.send(0, 0, 0);
        due("24: restricted is reachable", x.unreachable(), 2);
        x.failLink(0, 0);
        due("24: changeover", x.unreachable(), 3);
        x.send(0, 0, 3);
        due("24: no link", x.unreachable(), 4);
        due("24: nothing else", x.lost() + x.congested(), 0);
    }

    private static void promise25Congested() {
        SignallingPoint x = simplePoint(1);
        sendMany(x, 4, 0, 0);
        due("25: level 0", x.congested(), 0);
        x.send(0, 5, 0);
        due("25: level 1, importance 0", x.congested(), 1);
        x.send(0, 5, 1);
        due("25: level 1, importance 1", x.congested(), 1);
        due("25: not queued", x.queueLength(0, 0), 5);
        x.undo();
        x.undo();
        due("25: undone", x.congested(), 0);
    }

    private static void promise26Lost() {
        SignallingPoint x = simplePoint(1);
        sendMany(x, 10, 0, 3);
        due("26: room for ten", x.lost(), 0);
        x.send(0, 0, 3);
        due("26: the eleventh", x.lost(), 1);
        x.send(0, 0, 2);
        due("26: congestion is looked at first", x.lost(), 1);
        due("26: congested", x.congested(), 1);
        due("26: the queue is as it was", x.queued(0, 0, 9), 9);
        x.undo();
        x.undo();
        due("26: undone", x.lost(), 0);
    }

    private static void promise27Spread() {
        SignallingPoint x = pointWith(4, 4, 4, 4);
        for (int destination : new int[] {-1, 6, LEAST, MOST}) {
            due("27: wrong argument", x.spread(destination), INVALID);
        }
        due("27: no route", x.spread(0), 0);
        for (int linkset = 0; linkset < 4; linkset++) {
            x.addRoute(0, linkset, 0);
            // Over three routes of four links each, sixteen selectors reach all twelve links.
            due("27: routes " + (linkset + 1), x.spread(0), 4 * (linkset + 1));
        }
        x.failLink(3, 3);
        due("27: fifteen", x.spread(0), 15);
        x.setRouteState(0, 0, 2);
        due("27: eleven", x.spread(0), 11);
        due("27: other destination", x.spread(5), 0);
    }

    private static void promise28Undo() {
        SignallingPoint x = new SignallingPoint();
        due("28: empty", x.undo(), REJECTED);
        due("28: counted", x.errorCount(1), 1);
        for (int i = 0; i < 6; i++) {
            x.tick();
        }
        x.time();
        x.addLinkset(9);
        due("28: the latest four", x.undo(), 3);
        due("28: time", x.time(), 5);
        due("28: errors are not undone", x.errorCount(0), 1);
        due("28: third", x.undo(), 2);
        due("28: second", x.undo(), 1);
        x.tick();
        due("28: saved again", x.undo(), 1);
        due("28: last", x.undo(), 0);
        due("28: older ones are dropped", x.undo(), REJECTED);
        due("28: time at the end", x.time(), 2);
        due("28: counted twice", x.errorCount(1), 2);
    }

    private static void promise28UndoBringsBackEverything() {
        SignallingPoint x = heldPoint();
        x.send(0, 0, 0);
        x.send(0, 1, 0);
        x.tick();
        x.tick();
        // Leaves room on the stack, whose size is in the digest.
        x.undo();
        long before = x.digest();
        long[] digests = new long[8];
        for (int change = 0; change < 8; change++) {
            makeChange(x, change);
            digests[change] = x.digest();
            x.undo();
            due("28: the state before change " + change, x.digest(), before);
            makeChange(x, change);
            due("28: change " + change + " again", x.digest(), digests[change]);
            x.undo();
        }
    }

    private static void makeChange(SignallingPoint x, int change) {
        switch (change) {
            case 0 -> x.addLinkset(2);
            case 1 -> x.failLink(0, 1);
            case 2 -> x.acknowledge(0, 1, 1);
            case 3 -> x.addRoute(1, 0, 1);
            case 4 -> x.removeRoute(0, 0);
            case 5 -> x.setRouteState(0, 0, 2);
            case 6 -> x.send(0, 0, 0);
            default -> x.setHoldTime(7);
        }
    }

    private static void promise29ErrorCount() {
        SignallingPoint x = new SignallingPoint();
        int count = 0;
        for (int kind : new int[] {-1, 3, LEAST, MOST}) {
            due("29: wrong argument", x.errorCount(kind), INVALID);
            count++;
            due("29: counted, too", x.errorCount(0), count);
        }
        due("29: none rejected", x.errorCount(1), 0);
        due("29: none full", x.errorCount(2), 0);
        x.undo();
        due("29: rejected", x.errorCount(1), 1);
        for (int i = 0; i < 7; i++) {
            x.addLinkset(1);
        }
        due("29: full", x.errorCount(2), 3);
        x.undo();
        due("29: not undone", x.errorCount(2), 3);
        x.queued(0, 0, 0);
        x.routeState(0, 0);
        x.currentLink(0, 0);
        due("29: NONE is no error", x.errorCount(0), count);
    }

    private static long hash(long start, int... values) {
        long h = start;
        for (int v : values) {
            h = 31 * h + v;
        }
        return h;
    }

    private static void promise30Digest() {
        SignallingPoint x = new SignallingPoint();
        long h = hash(12144, 0, 0, 0, 0, 0, 3, 0, 0, 0, 0, 0, 0, 0);
        for (int i = 0; i < 96; i++) {
            h = hash(h, NONE, 0);
        }
        due("30: a new object", x.digest(), hash(h, 0));
        due("30: twice", x.digest(), hash(h, 0));

        x.addLinkset(2);
        x.addLinkset(1);
        x.addRoute(0, 0, 1);
        x.addRoute(0, 1, 2);
        x.failLink(0, 1);
        x.send(0, 3, 0);
        x.restoreLink(0, 1);
        x.send(0, 3, 0);
        x.send(5, 0, 0);
        x.addLinkset(0);
        x.undo();
        x.addRoute(0, 1, 1);
        x.setRouteState(0, 1, 1);
        x.setHoldTime(8);
        x.tick();
        h = hash(12144, 1, 1, 0, 4, 1, 8, 2, 0, 0, 0, 0, 0);
        h = hash(h, 2, 2, 1, 1, 0, 1, 0, 1, 1, 0);
        h = hash(h, 0, 1, 1, 2);
        for (int selector = 0; selector < 16; selector++) {
            h = hash(h, selector % 2, selector % 2);
        }
        for (int destination = 1; destination < 6; destination++) {
            h = hash(h, NONE, NONE, NONE, NONE);
            for (int selector = 0; selector < 16; selector++) {
                h = hash(h, NONE, 0);
            }
        }
        due("30: after some calls", x.digest(), hash(h, 1, 1));
    }

    private static void promise30DigestOfQueuesAndRemovedRoutes() {
        SignallingPoint x = pointWith(1, 2, 1, 4);
        x.setHoldTime(0);
        x.addRoute(5, 3, 2);
        x.addRoute(5, 0, 1);
        x.removeRoute(5, 0);
        x.failLink(1, 0);
        for (int i = 0; i < 3; i++) {
            x.send(5, 3, 0);
            x.send(5, 2, 0);
        }
        x.acknowledge(3, 2, 1);
        long h = hash(12144, 0, 0, 0, 4, 0, 0, 6, 1, 0, 0, 0, 0, 4);
        h = hash(h, 1, 1, 0);
        h = hash(h, 2, 0, 0, 1, 0);
        h = hash(h, 1, 1, 0);
        h = hash(h, 4, 1, 0, 1, 0, 1, 2, 3, 5, 1, 3, 0, 2, 4);
        for (int destination = 0; destination < 5; destination++) {
            h = hash(h, NONE, NONE, NONE, NONE, NONE, NONE, NONE, NONE);
            for (int selector = 0; selector < 16; selector++) {
                h = hash(h, NONE, 0);
            }
        }
        h = hash(h, NONE, NONE, NONE, NONE, NONE, NONE, 0, 2);
        for (int selector = 0; selector < 16; selector++) {
            h = hash(h, 12 + selector % 4, 0);
        }
        due("30: queues and a removed route", x.digest(), hash(h, 0));
    }
}
