import java.math.BigInteger;
import java.util.ArrayList;
import java.util.List;

// One test for each sentence of the promises 1 to 30 that names a boundary case: the ranges of the arguments,
// what is answered outside of them, at the ends of a range of answers, and where the state refuses a call.
public final class BoundaryCallsTest {
    private static final int NONE = -1;
    private static final int INVALID = -2;
    private static final int REJECTED = -3;
    private static final int FULL = -4;
    private static final int LEAST = Integer.MIN_VALUE;
    private static final int MOST = Integer.MAX_VALUE;

    // What stands just outside of the ranges, what lies far outside, and what wraps to 0 when it is multiplied.
    private static final int[] NO_DESTINATION = {-1, 6, 7, 1 << 28, 1 << 30, LEAST, MOST};
    private static final int[] NO_SELECTOR = {-1, 16, 17, 1 << 28, LEAST, MOST};
    private static final int[] NO_LINKSET = {-1, 3, 4, 1 << 30, LEAST, MOST};
    private static final int[] LINKS_OF = {2, 3, 1};
    private static final int[] NO_STATE = {-1, 3, LEAST, MOST};

    private static int sentences = 0;
    private static int wrong = 0;
    private static boolean holds;

    private interface Call {
        long on(SignallingPoint x);
    }

    private interface DestinationCall {
        long on(SignallingPoint x, int destination);
    }

    /** A call with a linkset and a link, a destination and a linkset, or a destination and a selector. */
    private interface PairCall {
        long on(SignallingPoint x, int first, int second);
    }

    public static void main(String[] args) {
        newObject();
        linksetsAndLinks();
        queues();
        routes();
        streams();
        messagesAndTime();
        counters();
        undoAndErrors();
        System.out.println(sentences + " sentences of the promises, " + wrong + " of them broken");
        if (wrong != 0) {
            System.exit(1);
        }
    }

    private static void newObject() {
        sentence(1, "without linksets and routes", BoundaryCallsTest::withoutLinksetsAndRoutes);
        sentence(1, "with the hold time 3", BoundaryCallsTest::firstHoldTime);
        sentence(1, "time 0, all counters 0", BoundaryCallsTest::countersAtFirst);
        sentence(1, "an empty undo stack", () -> due("undo", new SignallingPoint().undo(), REJECTED));
    }

    private static void linksetsAndLinks() {
        sentence(2, "INVALID if links is out of range", BoundaryCallsTest::numbersOfLinks);
        sentence(2, "FULL if there are 4 linksets", BoundaryCallsTest::fullOfLinksets);
        sentence(3, "INVALID if there is no such link", () -> refuseLinks(SignallingPoint::failLink));
        sentence(3, "REJECTED if the link is failed already", BoundaryCallsTest::failedAlready);
        sentence(3, "the number of messages that were taken from its queue", BoundaryCallsTest::takenFromAQueue);
        sentence(4, "INVALID if there is no such link", () -> refuseLinks(SignallingPoint::restoreLink));
        sentence(4, "REJECTED if the link is active", BoundaryCallsTest::activeAlready);
        sentence(4, "Its queue is empty.", BoundaryCallsTest::restoredQueueIsEmpty);
        sentence(4, "the number of streams that were diverted", BoundaryCallsTest::divertedByRestoring);
    }

    private static void queues() {
        sentence(5, "INVALID if an argument is out of range (link)",
            () -> refuseLinks((x, linkset, link) -> x.acknowledge(linkset, link, 1)));
        sentence(5, "INVALID if an argument is out of range (count)", BoundaryCallsTest::countsOutOfRange);
        sentence(5, "number of messages, 1 to 10", BoundaryCallsTest::countsInRange);
        sentence(5, "the length of the queue if that is less than count", BoundaryCallsTest::moreThanTheQueue);
        sentence(6, "0 to 10", BoundaryCallsTest::lengthsOfQueues);
        sentence(6, "INVALID if there is no such link", () -> refuseLinks(SignallingPoint::queueLength));
        sentence(7, "NONE if index is not below the length of the queue", BoundaryCallsTest::behindTheQueue);
        sentence(7, "INVALID if there is no such link",
            () -> refuseLinks((x, linkset, link) -> x.queued(linkset, link, 0)));
        sentence(7, "or index is negative", BoundaryCallsTest::negativeIndex);
        sentence(8, "0 to 3", BoundaryCallsTest::levelsOfCongestion);
        sentence(8, "INVALID if there is no such link", () -> refuseLinks(SignallingPoint::congestion));
        sentence(9, "1 if it is active, 0 if it is failed", BoundaryCallsTest::activeOrFailed);
        sentence(9, "INVALID if there is no such link", () -> refuseLinks(SignallingPoint::isActive));
    }

    private static void routes() {
        sentence(10, "INVALID if an argument is out of range (destination, linkset)",
            () -> refuseRoutes((x, destination, linkset) -> x.addRoute(destination, linkset, 0)));
        sentence(10, "INVALID if an argument is out of range (priority)", BoundaryCallsTest::prioritiesOutOfRange);
        sentence(10, "REJECTED if the destination has a route over this linkset", BoundaryCallsTest::routeTwice);
        sentence(10, "the number of streams that were diverted", BoundaryCallsTest::divertedByAdding);
        sentence(11, "INVALID if an argument is out of range", () -> refuseRoutes(SignallingPoint::removeRoute));
        sentence(11, "REJECTED if the destination has no route over this linkset", BoundaryCallsTest::nothingToRemove);
        sentence(11, "the state that the route had", BoundaryCallsTest::stateOfARemovedRoute);
        sentence(12, "INVALID if an argument is out of range (destination, linkset)",
            () -> refuseRoutes((x, destination, linkset) -> x.setRouteState(destination, linkset, 0)));
        sentence(12, "INVALID if an argument is out of range (state)", BoundaryCallsTest::statesOutOfRange);
        sentence(12, "REJECTED if the destination has no route over this linkset", BoundaryCallsTest::noStateToSet);
        sentence(12, "the previous state", BoundaryCallsTest::previousStates);
        sentence(13, "NONE if the destination has no route over this linkset", BoundaryCallsTest::noStateToTell);
        sentence(13, "INVALID if an argument is out of range", () -> refuseRoutes(SignallingPoint::routeState));
        sentence(14, "a bit mask of linksets (0 if the destination is not accessible)", BoundaryCallsTest::everyMask);
        sentence(14, "INVALID if destination is out of range",
            () -> refuseDestinations(SignallingPoint::currentRoutes));
    }

    private static void streams() {
        sentence(15, "4 * linkset + link", BoundaryCallsTest::everyLinkIsCurrent);
        sentence(15, "NONE if the stream has no current link", BoundaryCallsTest::noLinkToTell);
        sentence(15, "INVALID if an argument is out of range", () -> refuseStreams(SignallingPoint::currentLink));
        sentence(20, "1 if it is held, otherwise 0", BoundaryCallsTest::heldOrNot);
        sentence(20, "INVALID if an argument is out of range", () -> refuseStreams(SignallingPoint::isHeld));
        sentence(27, "the number of links", BoundaryCallsTest::fromNoneToSixteenLinks);
        sentence(27, "INVALID if destination is out of range", () -> refuseDestinations(SignallingPoint::spread));
    }

    private static void messagesAndTime() {
        sentence(16, "INVALID if an argument is out of range (destination, selector)",
            () -> refuseStreams((x, destination, selector) -> x.send(destination, selector, 0)));
        sentence(16, "INVALID if an argument is out of range (importance)", BoundaryCallsTest::importancesOutOfRange);
        sentence(16, "The call is successful also if the message is discarded.", BoundaryCallsTest::discardedIsSent);
        sentence(17, "INVALID if ticks is out of range", BoundaryCallsTest::holdTimesOutOfRange);
        sentence(17, "the previous hold time", BoundaryCallsTest::previousHoldTimes);
        sentence(17, "Streams that are held stay held until the time that was determined for them.",
            BoundaryCallsTest::newHoldTimeMovesNoEnd);
        sentence(18, "the number of messages that were taken out of the holding buffer", BoundaryCallsTest::takenOut);
        sentence(19, "the number of ticks so far", BoundaryCallsTest::ticksSoFar);
        sentence(21, "0 to 24", BoundaryCallsTest::emptyToFullBuffer);
    }

    private static void counters() {
        sentence(22, "the number of delivered messages", BoundaryCallsTest::deliveredMessages);
        sentence(23, "the number of delivered messages that have been overtaken", BoundaryCallsTest::overtakenMessages);
        sentence(24, "the counter \"unreachable\"", BoundaryCallsTest::unreachableMessages);
        sentence(25, "the counter \"congested\"", BoundaryCallsTest::congestedMessages);
        sentence(26, "because a queue or the holding buffer had no room", BoundaryCallsTest::lostMessages);
    }

    private static void undoAndErrors() {
        sentence(28, "REJECTED if the stack is empty", BoundaryCallsTest::nothingToUndo);
        sentence(28, "the number of states that are left on the stack", BoundaryCallsTest::statesThatAreLeft);
        sentence(29, "INVALID (which is counted, too) if kind is out of range", BoundaryCallsTest::kindsOutOfRange);
        sentence(29, "the number of failed calls of that kind", BoundaryCallsTest::eachKindByItself);
        sentence(30, "long arithmetic, overflow wraps", BoundaryCallsTest::digestWraps);
        sentence(30, "in this order", BoundaryCallsTest::digestKeepsTheOrder);
        sentence(30, "NONE if there is no route", BoundaryCallsTest::digestWithoutRoutes);
        sentence(30, "the number of states on the undo stack", BoundaryCallsTest::digestOfTheUndoStack);
        sentence(30, "the numbers of the messages in the holding buffer", BoundaryCallsTest::digestOfAFullBuffer);
        sentence(30, "the numbers of the queued messages from the oldest on", BoundaryCallsTest::digestOfAFullQueue);
    }

    // ---- how a sentence is tested

    private static void sentence(int promise, String words, Runnable test) {
        sentences++;
        holds = true;
        try {
            test.run();
        } catch (RuntimeException e) {
            holds = false;
            System.out.println("  threw " + e);
        }
        if (!holds) {
            wrong++;
            System.out.println("broken: promise " + promise + ": " + words);
        }
    }

    private static void due(String what, long got, long want) {
        if (got != want) {
            holds = false;
            System.out.println("  " + what + " answered " + got + ", due is " + want);
        }
    }

    /** One linkset for each number of links. */
    private static SignallingPoint pointWith(int... links) {
        SignallingPoint x = new SignallingPoint();
        for (int count : links) {
            x.addLinkset(count);
        }
        return x;
    }

    /** One linkset, with a route of destination 0 over it. */
    private static SignallingPoint simplePoint(int links) {
        SignallingPoint x = pointWith(links);
        x.addRoute(0, 0, 0);
        return x;
    }

    /** Destination 0 over two links; the streams of even selectors, on link 0, are held for 3 ticks. */
    private static SignallingPoint heldPoint() {
        SignallingPoint x = simplePoint(2);
        x.failLink(0, 0);
        x.restoreLink(0, 0);
        return x;
    }

    private static void fill(SignallingPoint x, int selector, int count) {
        for (int i = 0; i < count; i++) {
            x.send(0, selector, 3);
        }
    }

    private static void ticks(SignallingPoint x, int count) {
        for (int i = 0; i < count; i++) {
            x.tick();
        }
    }

    /**
     * Brings a new point to a state in which there is some of everything: a message that has been overtaken and
     * is not delivered yet, queues, a failed link (1, 2), held streams with messages in the buffer, discarded
     * messages, and a full undo stack.
     */
    private static void makeBusy(SignallingPoint x) {
        for (int links : LINKS_OF) {
            x.addLinkset(links);
        }
        x.addRoute(0, 0, 0);
        x.addRoute(0, 1, 1);
        x.addRoute(5, 1, 2);
        x.addRoute(5, 2, 2);
        x.setRouteState(0, 1, 1);
        x.send(0, 0, 0);
        x.setHoldTime(0);
        x.failLink(0, 1);
        x.send(0, 1, 0);
        x.restoreLink(0, 1);
        x.send(0, 1, 0);
        x.acknowledge(0, 1, 1);
        x.setHoldTime(3);
        x.tick();
        x.failLink(0, 1);
        x.restoreLink(0, 1);
        x.send(0, 1, 0);
        x.send(5, 0, 0);
        x.send(5, 2, 0);
        x.send(0, 2, 0);
        x.send(4, 0, 0);
        x.acknowledge(0, 0, 1);
        x.failLink(1, 2);
        x.setHoldTime(2);
    }

    /** An error of this kind on a new point, which is as new afterwards. */
    private static void makeError(SignallingPoint x, int code) {
        if (code == INVALID) {
            due("errorCount(3)", x.errorCount(3), INVALID);
        } else if (code == REJECTED) {
            due("undo()", x.undo(), REJECTED);
        } else {
            for (int i = 0; i < 4; i++) {
                x.addLinkset(1);
            }
            due("addLinkset(1)", x.addLinkset(1), FULL);
            for (int i = 0; i < 4; i++) {
                x.undo();
            }
        }
    }

    /** A call that fails on the busy point must leave it as one that had the same error before all else. */
    private static void refused(String what, int code, Call call) {
        SignallingPoint[] x = new SignallingPoint[2];
        SignallingPoint[] y = new SignallingPoint[2];
        for (int i = 0; i < 2; i++) {
            x[i] = new SignallingPoint();
            makeBusy(x[i]);
            y[i] = new SignallingPoint();
            makeError(y[i], code);
            makeBusy(y[i]);
            if (code == FULL) {
                x[i].addLinkset(4);
                y[i].addLinkset(4);
            }
            due(what, call.on(x[i]), code);
            due(what + ", the state after it", x[i].digest(), y[i].digest());
        }
        sameWhenUndone(what, x[0], y[0]);
        sameInTime(what, x[1], y[1]);
    }

    private static void sameWhenUndone(String what, SignallingPoint x, SignallingPoint y) {
        for (int i = 0; i < 5; i++) {
            due(what + ", then undo", x.undo(), y.undo());
            due(what + ", the state after undo", x.digest(), y.digest());
        }
    }

    /** What a digest does not show, such as the time until which a stream is held, shows in what follows. */
    private static void sameInTime(String what, SignallingPoint x, SignallingPoint y) {
        for (int i = 0; i < 4; i++) {
            due(what + ", then send", x.send(0, 1, 3), y.send(0, 1, 3));
            due(what + ", then tick", x.tick(), y.tick());
            for (int linkset = 0; linkset < 3; linkset++) {
                due(what + ", then acknowledge", x.acknowledge(linkset, 0, 10), y.acknowledge(linkset, 0, 10));
            }
            due(what + ", the state in time", x.digest(), y.digest());
        }
    }

    private static void refuseLinks(PairCall call) {
        due("without linksets", call.on(new SignallingPoint(), 0, 0), INVALID);
        for (int linkset : NO_LINKSET) {
            refused("linkset " + linkset, INVALID, x -> call.on(x, linkset, 0));
        }
        for (int i = 0; i < LINKS_OF.length; i++) {
            int linkset = i;
            for (int link : new int[] {-1, -4, LINKS_OF[linkset], 4, 5, LEAST, MOST}) {
                refused("link " + linkset + " " + link, INVALID, x -> call.on(x, linkset, link));
            }
            for (int j = 0; j < LINKS_OF[linkset]; j++) {
                int link = j;
                accepted("link " + linkset + " " + link, x -> call.on(x, linkset, link));
            }
        }
    }

    private static void refuseRoutes(PairCall call) {
        due("without linksets", call.on(new SignallingPoint(), 0, 0), INVALID);
        for (int destination : NO_DESTINATION) {
            refused("destination " + destination, INVALID, x -> call.on(x, destination, 0));
        }
        for (int linkset : NO_LINKSET) {
            for (int destination : new int[] {0, 3, 5}) {
                refused("linkset " + linkset, INVALID, x -> call.on(x, destination, linkset));
            }
        }
        for (int destination : new int[] {0, 5}) {
            for (int linkset : new int[] {0, 2}) {
                accepted("route " + destination + " " + linkset, x -> call.on(x, destination, linkset));
            }
        }
    }

    private static void refuseStreams(PairCall call) {
        for (int destination : NO_DESTINATION) {
            refused("destination " + destination, INVALID, x -> call.on(x, destination, 0));
        }
        for (int selector : NO_SELECTOR) {
            for (int destination : new int[] {0, 3, 5}) {
                refused("selector " + selector, INVALID, x -> call.on(x, destination, selector));
            }
        }
        for (int destination : new int[] {0, 5}) {
            for (int selector : new int[] {0, 15}) {
                accepted("stream " + destination + " " + selector, x -> call.on(x, destination, selector));
            }
        }
    }

    private static void refuseDestinations(DestinationCall call) {
        for (int destination : NO_DESTINATION) {
            refused("destination " + destination, INVALID, x -> call.on(x, destination));
        }
        accepted("destination 0", x -> call.on(x, 0));
        accepted("destination 5", x -> call.on(x, 5));
    }

    /** The arguments are within their ranges; whether the state allows the call is not asked here. */
    private static void accepted(String what, Call call) {
        SignallingPoint x = new SignallingPoint();
        makeBusy(x);
        due(what + " is INVALID", call.on(x) == INVALID ? 1 : 0, 0);
        due(what + ", errors", x.errorCount(0), 0);
    }

    // ---- promise 1

    private static void withoutLinksetsAndRoutes() {
        SignallingPoint x = new SignallingPoint();
        for (int linkset = 0; linkset < 4; linkset++) {
            due("linkset " + linkset, x.isActive(linkset, 0), INVALID);
        }
        for (int destination = 0; destination < 6; destination++) {
            due("routes", x.currentRoutes(destination), 0);
            due("links", x.spread(destination), 0);
            for (int selector = 0; selector < 16; selector++) {
                due("link", x.currentLink(destination, selector), NONE);
                due("held", x.isHeld(destination, selector), 0);
            }
        }
        due("the first linkset", x.addLinkset(1), 0);
        due("no route over it", x.routeState(0, 0), NONE);
    }

    private static void firstHoldTime() {
        due("hold time", new SignallingPoint().setHoldTime(0), 3);
        SignallingPoint x = heldPoint();
        ticks(x, 2);
        due("after two ticks", x.isHeld(0, 0), 1);
        x.tick();
        due("after three ticks", x.isHeld(0, 0), 0);
    }

    private static void countersAtFirst() {
        SignallingPoint x = new SignallingPoint();
        due("time", x.time(), 0);
        due("held messages", x.heldMessages(), 0);
        due("delivered", x.delivered(), 0);
        due("overtaken", x.overtaken(), 0);
        due("unreachable", x.unreachable(), 0);
        due("congested", x.congested(), 0);
        due("lost", x.lost(), 0);
        for (int kind = 0; kind < 3; kind++) {
            due("errors", x.errorCount(kind), 0);
        }
        due("the first number", x.send(0, 0, 0), 0);
    }

    // ---- promises 2 to 4

    private static void numbersOfLinks() {
        for (int links : new int[] {0, -1, 5, LEAST, MOST}) {
            refused("links " + links, INVALID, x -> x.addLinkset(links));
        }
        for (int links = 1; links <= 4; links++) {
            due("links " + links, new SignallingPoint().addLinkset(links), 0);
        }
    }

    private static void fullOfLinksets() {
        for (int links = 1; links <= 4; links++) {
            int count = links;
            refused("a fifth linkset", FULL, x -> x.addLinkset(count));
        }
        SignallingPoint x = pointWith(1, 1, 1);
        due("the fourth", x.addLinkset(4), 3);
        due("full", x.addLinkset(4), FULL);
        due("the fourth is undone", x.undo(), 3);
        due("another fourth", x.addLinkset(1), 3);
    }

    private static void failedAlready() {
        refused("a failed link", REJECTED, x -> x.failLink(1, 2));
        SignallingPoint x = pointWith(4);
        for (int link = 0; link < 4; link++) {
            due("fails", x.failLink(0, link), 0);
            due("failed already", x.failLink(0, link), REJECTED);
        }
        x.restoreLink(0, 3);
        due("fails again", x.failLink(0, 3), 0);
    }

    private static void takenFromAQueue() {
        for (int length = 0; length <= 10; length++) {
            SignallingPoint x = simplePoint(2);
            fill(x, 1, length);
            due("taken", x.failLink(0, 1), length);
            due("on the other link", x.queueLength(0, 0), length);
        }
        SignallingPoint y = simplePoint(2);
        fill(y, 0, 10);
        fill(y, 1, 10);
        due("taken, though all are lost", y.failLink(0, 1), 10);
        due("lost", y.lost(), 10);
        due("taken, though all are unreachable", y.failLink(0, 0), 10);
        due("unreachable", y.unreachable(), 10);
    }

    private static void activeAlready() {
        refused("an active link", REJECTED, x -> x.restoreLink(1, 1));
        SignallingPoint x = pointWith(4);
        for (int link = 0; link < 4; link++) {
            due("active at first", x.restoreLink(0, link), REJECTED);
            x.failLink(0, link);
            due("restored", x.restoreLink(0, link), 0);
            due("active already", x.restoreLink(0, link), REJECTED);
        }
    }

    private static void restoredQueueIsEmpty() {
        SignallingPoint x = simplePoint(2);
        fill(x, 0, 10);
        x.failLink(0, 0);
        due("while it is failed", x.queueLength(0, 0), 0);
        x.restoreLink(0, 0);
        due("when it is restored", x.queueLength(0, 0), 0);
        due("no oldest message", x.queued(0, 0, 0), NONE);
        due("no congestion", x.congestion(0, 0), 0);
        due("the messages stay where they are", x.queueLength(0, 1), 10);
    }

    private static void divertedByRestoring() {
        SignallingPoint x = pointWith(1, 1);
        x.failLink(0, 0);
        due("no routes", x.restoreLink(0, 0), 0);
        for (int destination = 0; destination < 6; destination++) {
            x.addRoute(destination, 0, 0);
            x.addRoute(destination, 1, 1);
        }
        x.failLink(1, 0);
        due("of no use now", x.restoreLink(1, 0), 0);
        x.failLink(0, 0);
        due("every stream", x.restoreLink(0, 0), 96);
        x.failLink(0, 0);
        due("every stream, held already", x.restoreLink(0, 0), 96);
        x.setHoldTime(0);
        x.failLink(0, 0);
        due("hold time 0", x.restoreLink(0, 0), 0);
    }

    // ---- promises 5 to 9

    private static void countsOutOfRange() {
        for (int count : new int[] {0, -1, 11, LEAST, MOST}) {
            refused("count " + count, INVALID, x -> x.acknowledge(0, 0, count));
            refused("count " + count + " of an empty queue", INVALID, x -> x.acknowledge(1, 1, count));
        }
    }

    private static void countsInRange() {
        for (int count = 1; count <= 10; count++) {
            SignallingPoint x = simplePoint(1);
            fill(x, 0, 10);
            due("count " + count, x.acknowledge(0, 0, count), count);
            due("delivered", x.delivered(), count);
            due("left", x.queueLength(0, 0), 10 - count);
        }
    }

    private static void moreThanTheQueue() {
        for (int length = 0; length <= 10; length++) {
            SignallingPoint x = simplePoint(1);
            fill(x, 0, length);
            due("length " + length, x.acknowledge(0, 0, 10), length);
            due("delivered", x.delivered(), length);
            due("nothing is left", x.acknowledge(0, 0, 1), 0);
        }
        SignallingPoint y = simplePoint(1);
        y.failLink(0, 0);
        due("a failed link has no messages", y.acknowledge(0, 0, 1), 0);
    }

    private static void lengthsOfQueues() {
        SignallingPoint x = pointWith(1, 1, 1, 4);
        x.addRoute(0, 3, 0);
        for (int length = 0; length <= 10; length++) {
            due("the last link of all", x.queueLength(3, 3), length);
            x.send(0, 15, 3);
        }
        due("full", x.queueLength(3, 3), 10);
        due("its neighbour", x.queueLength(3, 2), 0);
        x.acknowledge(3, 3, 10);
        due("empty again", x.queueLength(3, 3), 0);
    }

    private static void behindTheQueue() {
        for (int length = 0; length <= 10; length++) {
            SignallingPoint x = simplePoint(2);
            fill(x, 1, 1);
            fill(x, 0, length);
            due("the newest of " + length, x.queued(0, 0, length - 1), length > 0 ? length : INVALID);
            due("behind " + length, x.queued(0, 0, length), NONE);
            due("far behind " + length, x.queued(0, 0, 10), NONE);
            due("farthest behind " + length, x.queued(0, 0, MOST), NONE);
            due("NONE is no error", x.errorCount(0), length > 0 ? 0 : 1);
        }
    }

    private static void negativeIndex() {
        refused("index -1", INVALID, x -> x.queued(0, 0, -1));
        refused("index -1 of a later queue", INVALID, x -> x.queued(0, 1, -1));
        refused("the least index", INVALID, x -> x.queued(0, 0, LEAST));
        refused("index -1 of an empty queue", INVALID, x -> x.queued(1, 1, -1));
    }

    private static void levelsOfCongestion() {
        int[] levels = {0, 0, 0, 0, 1, 1, 2, 2, 3, 3, 3};
        SignallingPoint x = simplePoint(2);
        for (int length = 0; length <= 10; length++) {
            due("length " + length, x.congestion(0, 1), levels[length]);
            due("the other link", x.congestion(0, 0), 0);
            x.send(0, 1, 3);
        }
        x.send(0, 1, 3);
        due("no more than 3", x.congestion(0, 1), 3);
        x.failLink(0, 1);
        due("a failed link", x.congestion(0, 1), 0);
    }

    private static void activeOrFailed() {
        SignallingPoint x = pointWith(4, 4);
        for (int failed = 0; failed < 4; failed++) {
            x.failLink(1, failed);
            for (int link = 0; link < 4; link++) {
                due("link " + link, x.isActive(1, link), link <= failed ? 0 : 1);
                due("of another linkset", x.isActive(0, link), 1);
            }
        }
        x.restoreLink(1, 0);
        due("restored", x.isActive(1, 0), 1);
        due("not restored", x.isActive(1, 1), 0);
    }

    // ---- promises 10 to 14

    private static void prioritiesOutOfRange() {
        for (int priority : new int[] {-1, 3, LEAST, MOST}) {
            refused("priority " + priority, INVALID, x -> x.addRoute(1, 0, priority));
            refused("priority " + priority + " of a route", INVALID, x -> x.addRoute(0, 0, priority));
        }
        for (int priority = 0; priority <= 2; priority++) {
            due("priority " + priority, pointWith(1).addRoute(5, 0, priority), 0);
        }
    }

    private static void routeTwice() {
        for (int priority = 0; priority <= 2; priority++) {
            int other = priority;
            refused("an allowed route", REJECTED, x -> x.addRoute(0, 0, other));
            refused("a restricted route", REJECTED, x -> x.addRoute(0, 1, other));
        }
        SignallingPoint x = simplePoint(1);
        x.setRouteState(0, 0, 2);
        due("a prohibited route", x.addRoute(0, 0, 0), REJECTED);
        due("it stays prohibited", x.routeState(0, 0), 2);
        x.removeRoute(0, 0);
        due("once it is removed", x.addRoute(0, 0, 0), 0);
    }

    private static void divertedByAdding() {
        SignallingPoint x = pointWith(1, 1, 1, 1);
        due("the first", x.addRoute(0, 0, 1), 0);
        due("a worse one", x.addRoute(0, 1, 2), 0);
        due("a better one", x.addRoute(0, 2, 0), 16);
        due("one that is as good", x.addRoute(0, 3, 0), 8);
        x.setHoldTime(0);
        x.addRoute(1, 0, 1);
        due("hold time 0", x.addRoute(1, 1, 0), 0);
        x.setHoldTime(1);
        x.failLink(2, 0);
        due("not usable", x.addRoute(1, 2, 0), 0);
    }

    private static void nothingToRemove() {
        refused("no route to this destination", REJECTED, x -> x.removeRoute(1, 0));
        refused("no route over this linkset", REJECTED, x -> x.removeRoute(0, 2));
        SignallingPoint x = simplePoint(1);
        due("a route", x.removeRoute(0, 0), 0);
        due("removed already", x.removeRoute(0, 0), REJECTED);
    }

    private static void stateOfARemovedRoute() {
        for (int state = 0; state <= 2; state++) {
            SignallingPoint x = pointWith(1, 1, 1, 1);
            x.addRoute(5, 3, 2);
            x.setRouteState(5, 3, state);
            due("removed", x.removeRoute(5, 3), state);
            due("gone", x.routeState(5, 3), NONE);
        }
    }

    private static void statesOutOfRange() {
        for (int state : NO_STATE) {
            refused("state " + state, INVALID, x -> x.setRouteState(0, 0, state));
            refused("state " + state + " of no route", INVALID, x -> x.setRouteState(1, 0, state));
        }
    }

    private static void noStateToSet() {
        for (int state = 0; state <= 2; state++) {
            int wanted = state;
            refused("no route to this destination", REJECTED, x -> x.setRouteState(1, 0, wanted));
            refused("no route over this linkset", REJECTED, x -> x.setRouteState(0, 2, wanted));
        }
    }

    private static void previousStates() {
        SignallingPoint x = pointWith(1, 1);
        x.addRoute(5, 1, 0);
        int previous = 0;
        for (int state : new int[] {0, 1, 1, 2, 2, 0, 2, 1, 0}) {
            due("previous", x.setRouteState(5, 1, state), previous);
            due("state", x.routeState(5, 1), state);
            previous = state;
        }
    }

    private static void noStateToTell() {
        SignallingPoint x = pointWith(1, 1);
        x.addRoute(0, 1, 0);
        long before = x.digest();
        due("over another linkset", x.routeState(0, 0), NONE);
        due("to another destination", x.routeState(1, 1), NONE);
        due("to the last destination", x.routeState(5, 1), NONE);
        due("NONE is no error and no change", x.digest(), before);
    }

    private static void everyMask() {
        for (int mask = 0; mask < 16; mask++) {
            SignallingPoint x = pointWith(1, 1, 1, 1);
            for (int linkset = 0; linkset < 4; linkset++) {
                if ((mask >> linkset & 1) == 1) {
                    x.addRoute(5, linkset, 2);
                }
            }
            due("mask", x.currentRoutes(5), mask);
            due("of another destination", x.currentRoutes(0), 0);
        }
    }

    // ---- promises 15, 20 and 27

    private static void everyLinkIsCurrent() {
        SignallingPoint x = pointWith(4, 4, 4, 4);
        for (int linkset = 0; linkset < 4; linkset++) {
            x.addRoute(5, linkset, 2);
        }
        for (int selector = 0; selector < 16; selector++) {
            due("selector " + selector, x.currentLink(5, selector), 4 * (selector % 4) + selector / 4);
        }
    }

    private static void noLinkToTell() {
        SignallingPoint x = simplePoint(1);
        x.failLink(0, 0);
        long before = x.digest();
        for (int selector = 0; selector < 16; selector++) {
            due("a failed link", x.currentLink(0, selector), NONE);
            due("no route", x.currentLink(5, selector), NONE);
        }
        due("NONE is no error and no change", x.digest(), before);
    }

    private static void heldOrNot() {
        SignallingPoint x = heldPoint();
        for (int selector = 0; selector < 16; selector++) {
            due("selector " + selector, x.isHeld(0, selector), 1 - selector % 2);
            due("of another destination", x.isHeld(1, selector), 0);
        }
        ticks(x, 3);
        for (int selector = 0; selector < 16; selector++) {
            due("freed, selector " + selector, x.isHeld(0, selector), 0);
        }
        x.undo();
        due("the tick is undone", x.isHeld(0, 0), 1);
    }

    private static void fromNoneToSixteenLinks() {
        SignallingPoint x = pointWith(4, 4, 4, 4);
        due("no route", x.spread(5), 0);
        for (int linkset = 0; linkset < 4; linkset++) {
            x.addRoute(5, linkset, 0);
            due("routes: " + (linkset + 1), x.spread(5), 4 * (linkset + 1));
        }
        for (int left = 15; left >= 0; left--) {
            x.failLink(left / 4, left % 4);
            due("active links: " + left, x.spread(5), left);
        }
        SignallingPoint y = simplePoint(4);
        due("another destination", y.spread(1), 0);
        y.addRoute(1, 0, 0);
        due("the same links", y.spread(1), 4);
    }

    // ---- promises 16 to 21

    private static void importancesOutOfRange() {
        for (int importance : new int[] {-1, 4, LEAST, MOST}) {
            refused("importance " + importance, INVALID, x -> x.send(0, 0, importance));
            refused("importance " + importance + " of a held stream", INVALID, x -> x.send(0, 1, importance));
            refused("importance " + importance + " without a link", INVALID, x -> x.send(1, 0, importance));
        }
        for (int importance = 0; importance <= 3; importance++) {
            due("importance " + importance, simplePoint(1).send(0, 0, importance), 0);
        }
    }

    private static void discardedIsSent() {
        SignallingPoint x = simplePoint(1);
        due("unreachable", x.send(5, 15, 0), 0);
        due("saved", x.undo(), 2);
        due("unreachable again", x.send(5, 15, 0), 0);
        fill(x, 0, 10);
        due("congested", x.send(0, 0, 2), 11);
        due("lost", x.send(0, 0, 3), 12);
        due("no error", x.errorCount(0) + x.errorCount(1) + x.errorCount(2), 0);
        due("saved, too", x.undo(), 3);
        due("lost is undone", x.lost(), 0);
        due("and saved", x.undo(), 2);
        due("congested is undone", x.congested(), 0);
        due("the number is undone", x.send(0, 0, 3), 11);

        SignallingPoint y = heldPoint();
        fill(y, 0, 24);
        due("no room in the buffer", y.send(0, 0, 0), 24);
        due("the next number", y.send(0, 1, 0), 25);
    }

    private static void holdTimesOutOfRange() {
        for (int ticks : new int[] {-1, 10, LEAST, MOST}) {
            refused("ticks " + ticks, INVALID, x -> x.setHoldTime(ticks));
        }
    }

    private static void previousHoldTimes() {
        SignallingPoint x = new SignallingPoint();
        due("at first", x.setHoldTime(0), 3);
        for (int ticks = 1; ticks <= 9; ticks++) {
            due("previous", x.setHoldTime(ticks), ticks - 1);
        }
        due("the same again", x.setHoldTime(9), 9);
        due("too many", x.setHoldTime(10), INVALID);
        due("it stays", x.setHoldTime(0), 9);
        due("too few", x.setHoldTime(-1), INVALID);
        due("it stays, too", x.setHoldTime(3), 0);
    }

    private static void newHoldTimeMovesNoEnd() {
        for (int hold : new int[] {0, 1, 9}) {
            SignallingPoint x = heldPoint();
            x.tick();
            x.setHoldTime(hold);
            due("held", x.isHeld(0, 0), 1);
            x.tick();
            due("held for two ticks", x.isHeld(0, 0), 1);
            x.tick();
            due("not for three", x.isHeld(0, 0), 0);
        }
    }

    private static void takenOut() {
        for (int count = 0; count <= 25; count++) {
            SignallingPoint x = heldPoint();
            fill(x, 0, count);
            due("first tick", x.tick(), 0);
            due("second tick", x.tick(), 0);
            int held = Math.min(count, 24);
            due("third tick", x.tick(), held);
            due("nothing is left", x.heldMessages(), 0);
            due("queued", x.queueLength(0, 0), Math.min(held, 10));
            due("lost", x.lost(), Math.max(count - 10, 0));
            due("fourth tick", x.tick(), 0);
        }
        due("a new point", new SignallingPoint().tick(), 0);
    }

    private static void ticksSoFar() {
        SignallingPoint x = new SignallingPoint();
        ticks(x, 10);
        due("time", x.time(), 10);
        for (int left = 3; left >= 0; left--) {
            x.undo();
            due("undone", x.time(), 6 + left);
        }
        x.undo();
        due("an undo that fails", x.time(), 6);
        x.setHoldTime(9);
        x.send(0, 0, 0);
        due("other calls", x.time(), 6);
    }

    private static void emptyToFullBuffer() {
        SignallingPoint x = heldPoint();
        for (int count = 0; count <= 24; count++) {
            due("messages", x.heldMessages(), count);
            x.send(0, 14, 0);
        }
        due("one more", x.heldMessages(), 24);
        x.undo();
        x.undo();
        due("undone", x.heldMessages(), 23);
        ticks(x, 3);
        due("emptied", x.heldMessages(), 0);
    }

    // ---- promises 22 to 26

    private static void deliveredMessages() {
        SignallingPoint x = simplePoint(1);
        for (int round = 1; round <= 20; round++) {
            fill(x, 0, 10);
            x.acknowledge(0, 0, 10);
            due("round " + round, x.delivered(), 10 * round);
        }
        x.acknowledge(0, 0, 10);
        due("an empty queue", x.delivered(), 200);
        x.acknowledge(0, 0, 11);
        due("a call that fails", x.delivered(), 200);
        fill(x, 0, 10);
        x.failLink(0, 0);
        due("messages that are discarded", x.delivered(), 200);
    }

    private static void overtakenMessages() {
        SignallingPoint x = simplePoint(2);
        x.setHoldTime(0);
        x.failLink(0, 0);
        fill(x, 0, 10);
        x.restoreLink(0, 0);
        x.acknowledge(0, 0, 10);
        due("nothing is delivered yet", x.overtaken(), 0);
        x.send(0, 0, 0);
        x.acknowledge(0, 0, 1);
        due("the first delivery", x.overtaken(), 0);
        for (int count = 1; count <= 10; count++) {
            x.acknowledge(0, 1, 1);
            due("all of a full queue", x.overtaken(), count);
        }
        due("delivered", x.delivered(), 11);
        x.undo();
        due("undone", x.overtaken(), 9);
    }

    private static void unreachableMessages() {
        SignallingPoint x = simplePoint(1);
        x.send(0, 0, 0);
        due("reachable", x.unreachable(), 0);
        x.send(1, 0, 0);
        due("no route", x.unreachable(), 1);
        x.send(1, 16, 0);
        due("a call that fails", x.unreachable(), 1);
        x.failLink(0, 0);
        due("a changeover", x.unreachable(), 2);
        x.undo();
        due("undone", x.unreachable(), 1);
    }

    private static void congestedMessages() {
        SignallingPoint x = simplePoint(1);
        for (int i = 0; i < 4; i++) {
            x.send(0, 0, 0);
        }
        due("up to level 1", x.congested(), 0);
        x.send(0, 0, 0);
        due("at level 1", x.congested(), 1);
        x.acknowledge(0, 0, 1);
        x.send(0, 0, 0);
        due("below it again", x.congested(), 1);
        due("the queue", x.queueLength(0, 0), 4);
        due("nothing else", x.lost() + x.unreachable(), 0);
    }

    private static void lostMessages() {
        SignallingPoint x = simplePoint(1);
        fill(x, 0, 10);
        due("room for ten", x.lost(), 0);
        fill(x, 0, 1);
        due("a queue without room", x.lost(), 1);
        x.undo();
        due("undone", x.lost(), 0);

        SignallingPoint y = heldPoint();
        fill(y, 0, 24);
        due("room for 24", y.lost(), 0);
        fill(y, 0, 1);
        due("a buffer without room", y.lost(), 1);
        ticks(y, 3);
        due("then a queue without room", y.lost(), 15);
    }

    // ---- promises 28 to 30

    private static void nothingToUndo() {
        SignallingPoint x = new SignallingPoint();
        due("a new point", x.undo(), REJECTED);
        due("again", x.undo(), REJECTED);
        due("counted", x.errorCount(1), 2);
        x.tick();
        due("one state", x.undo(), 0);
        long before = x.digest();
        due("none is left", x.undo(), REJECTED);
        due("the time stays", x.time(), 0);
        due("counted, too", x.errorCount(1), 3);
        SignallingPoint y = new SignallingPoint();
        y.undo();
        y.undo();
        due("the same state", before, y.digest());
    }

    private static void statesThatAreLeft() {
        SignallingPoint x = new SignallingPoint();
        for (int saved = 1; saved <= 6; saved++) {
            x.setHoldTime(saved);
            due("left", x.undo(), Math.min(saved, 4) - 1);
            x.setHoldTime(saved);
        }
        for (int left = 3; left >= 0; left--) {
            due("one after the other", x.undo(), left);
        }
        due("the oldest that is kept", x.setHoldTime(0), 2);
    }

    private static void kindsOutOfRange() {
        for (int kind : new int[] {-1, 3, -2, -3, -4, LEAST, MOST}) {
            refused("kind " + kind, INVALID, x -> x.errorCount(kind));
        }
        SignallingPoint x = new SignallingPoint();
        due("before", x.errorCount(0), 0);
        due("kind 3", x.errorCount(3), INVALID);
        due("counted", x.errorCount(0), 1);
        due("kind -1", x.errorCount(-1), INVALID);
        due("counted again", x.errorCount(0), 2);
    }

    private static void eachKindByItself() {
        SignallingPoint x = pointWith(1, 1, 1, 1);
        for (int i = 0; i < 3; i++) {
            x.addLinkset(1);
        }
        for (int i = 0; i < 2; i++) {
            x.removeRoute(0, 0);
        }
        x.tick();
        x.addLinkset(0);
        x.undo();
        due("INVALID", x.errorCount(0), 1);
        due("REJECTED", x.errorCount(1), 2);
        due("FULL", x.errorCount(2), 3);
        due("a question changes nothing", x.errorCount(2), 3);
    }

    /** The hash in whole numbers, taken into the range of long only at its end. */
    private static long hash(List<Integer> values) {
        BigInteger h = BigInteger.valueOf(12144);
        for (int v : values) {
            h = h.multiply(BigInteger.valueOf(31)).add(BigInteger.valueOf(v));
        }
        return h.longValue();
    }

    private static List<Integer> listOf(int... values) {
        List<Integer> list = new ArrayList<>();
        for (int v : values) {
            list.add(v);
        }
        return list;
    }

    /** The streams of a destination, all over one linkset of this many links, or without a link. */
    private static void addStreams(List<Integer> values, int links, boolean evenAreHeld) {
        for (int selector = 0; selector < 16; selector++) {
            values.add(links == 0 ? NONE : selector % links);
            values.add(evenAreHeld && selector % 2 == 0 ? 1 : 0);
        }
    }

    private static void digestWraps() {
        List<Integer> values = listOf(0, 0, 0, 0, 0, 3, 0, 0, 0, 0, 0, 0, 0);
        for (int destination = 0; destination < 6; destination++) {
            addStreams(values, 0, false);
        }
        values.add(0);
        SignallingPoint x = new SignallingPoint();
        due("a new point", x.digest(), hash(values));
        due("a question changes nothing", x.digest(), hash(values));
        x.addLinkset(0);
        values.set(0, 1);
        due("the first of many values", x.digest(), hash(values));
    }

    /** As many of each as of no other counter: 3, 2 and 1 errors, and messages of every fate. */
    private static SignallingPoint countedPoint() {
        SignallingPoint x = pointWith(1, 2, 3, 4);
        for (int i = 0; i < 3; i++) {
            x.addLinkset(0);
        }
        x.restoreLink(0, 0);
        x.restoreLink(0, 0);
        x.addLinkset(1);
        x.setHoldTime(0);
        x.addRoute(5, 3, 2);
        x.failLink(3, 3);
        x.send(5, 3, 3);
        x.restoreLink(3, 3);
        x.send(5, 3, 3);
        x.acknowledge(3, 3, 1);
        x.acknowledge(3, 0, 1);
        for (int i = 0; i < 6; i++) {
            x.send(4, 0, 0);
        }
        for (int i = 0; i < 15; i++) {
            x.send(5, 3, 3);
        }
        for (int i = 0; i < 4; i++) {
            x.send(5, 3, 2);
        }
        return x;
    }

    private static void digestKeepsTheOrder() {
        SignallingPoint x = countedPoint();
        x.failLink(1, 0);
        x.addRoute(1, 2, 1);
        x.setRouteState(1, 2, 1);
        x.addRoute(1, 0, 0);
        x.setRouteState(1, 0, 2);
        x.setHoldTime(7);
        ticks(x, 9);
        List<Integer> values = listOf(3, 2, 1, 4, 9, 7, 27, 2, 1, 6, 4, 5, 4);
        values.addAll(List.of(1, 1, 0));
        values.addAll(List.of(2, 0, 0, 1, 0));
        values.addAll(List.of(3, 1, 0, 1, 0, 1, 0));
        values.addAll(List.of(4, 1, 0, 1, 0, 1, 0));
        values.addAll(List.of(1, 10));
        for (int number = 8; number < 18; number++) {
            values.add(number);
        }
        for (int destination = 0; destination < 6; destination++) {
            // The states and the priorities of destination 1 and of destination 5; the others have no routes.
            values.addAll(destination == 1 ? List.of(2, 0, NONE, NONE, 1, 1, NONE, NONE)
                : destination == 5 ? List.of(NONE, NONE, NONE, NONE, NONE, NONE, 0, 2)
                : List.of(NONE, NONE, NONE, NONE, NONE, NONE, NONE, NONE));
            for (int selector = 0; selector < 16; selector++) {
                values.add(destination == 1 ? 8 + selector % 3 : destination == 5 ? 12 + selector % 4 : NONE);
                values.add(0);
            }
        }
        values.add(0);
        due("a digest of different values", x.digest(), hash(values));
    }

    private static void digestWithoutRoutes() {
        SignallingPoint x = pointWith(1, 4);
        x.addRoute(5, 1, 2);
        x.removeRoute(5, 1);
        List<Integer> values = listOf(0, 0, 0, 4, 0, 3, 0, 0, 0, 0, 0, 0, 2, 1, 1, 0, 4, 1, 0, 1, 0, 1, 0, 1, 0);
        for (int destination = 0; destination < 6; destination++) {
            values.addAll(List.of(NONE, NONE, NONE, NONE));
            addStreams(values, 0, false);
        }
        values.add(0);
        due("a removed route", x.digest(), hash(values));
    }

    private static void digestOfTheUndoStack() {
        SignallingPoint x = new SignallingPoint();
        for (int ticks = 0; ticks <= 6; ticks++) {
            List<Integer> values = listOf(0, 0, 0, Math.min(ticks, 4), ticks, 3, 0, 0, 0, 0, 0, 0, 0);
            for (int destination = 0; destination < 6; destination++) {
                addStreams(values, 0, false);
            }
            values.add(0);
            due("after ticks: " + ticks, x.digest(), hash(values));
            x.tick();
        }
    }

    private static void digestOfAFullBuffer() {
        SignallingPoint x = heldPoint();
        x.send(0, 1, 0);
        fill(x, 0, 25);
        List<Integer> values = listOf(0, 0, 0, 4, 0, 3, 26, 0, 0, 0, 0, 1, 1, 2, 1, 0, 1, 1, 0, 0, 0);
        addStreams(values, 2, true);
        for (int destination = 1; destination < 6; destination++) {
            values.addAll(List.of(NONE, NONE));
            addStreams(values, 0, false);
        }
        values.add(24);
        for (int number = 1; number <= 24; number++) {
            values.add(number);
        }
        due("24 messages in the buffer", x.digest(), hash(values));
    }

    private static void digestOfAFullQueue() {
        SignallingPoint x = simplePoint(2);
        fill(x, 0, 12);
        x.acknowledge(0, 0, 1);
        x.send(0, 0, 3);
        List<Integer> values = listOf(0, 0, 0, 4, 0, 3, 13, 1, 0, 0, 0, 2, 1, 2, 1, 10);
        values.addAll(List.of(1, 2, 3, 4, 5, 6, 7, 8, 9, 12));
        values.addAll(List.of(1, 0, 0, 0));
        addStreams(values, 2, false);
        for (int destination = 1; destination < 6; destination++) {
            values.addAll(List.of(NONE, NONE));
            addStreams(values, 0, false);
        }
        values.add(0);
        due("ten messages in a queue", x.digest(), hash(values));
    }
}
