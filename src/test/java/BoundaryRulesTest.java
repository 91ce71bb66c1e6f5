// One test for each sentence of the document's 'Description' that names a boundary case, in its order.
public final class BoundaryRulesTest {
    private static final int NONE = -1;
    private static final int INVALID = -2;
    private static final int REJECTED = -3;
    private static final int FULL = -4;
    private static final int ALLOWED = 0;
    private static final int RESTRICTED = 1;
    private static final int PROHIBITED = 2;

    private static int sentences = 0;
    private static int wrong = 0;
    private static boolean holds;

    public static void main(String[] args) {
        lifetime();
        linksetsAndLinks();
        routes();
        streams();
        sending();
        changes();
        time();
        delivery();
        undo();
        errors();
        System.out.println(sentences + " sentences of the description, " + wrong + " of them broken");
        if (wrong != 0) {
            System.exit(1);
        }
    }

    private static void lifetime() {
        sentence("An object is used for at most 512 calls after it has been made", BoundaryRulesTest::allOf512Calls);
    }

    private static void linksetsAndLinks() {
        sentence("The point has at most 4 linksets", BoundaryRulesTest::atMostFourLinksets);
        sentence("numbered from 0 in the order in which they were added", BoundaryRulesTest::linksetsAreNumberedInOrder);
        sentence("A linkset has 1 to 4 links, numbered from 0.", BoundaryRulesTest::oneToFourLinks);
        sentence("it is active at first", BoundaryRulesTest::activeAtFirst);
        sentence("Each link has a queue of at most 10 messages", BoundaryRulesTest::atMostTenInAQueue);
        sentence("0 for a length of 0 to 3", () -> levels(0, 0, 3));
        sentence("1 for 4 or 5", () -> levels(1, 4, 5));
        sentence("2 for 6 or 7", () -> levels(2, 6, 7));
        sentence("3 for 8 or more", () -> levels(3, 8, 10));
    }

    private static void routes() {
        sentence("There are 6 destinations, numbered 0 to 5.", BoundaryRulesTest::sixDestinations);
        sentence("each route leads over a different linkset", BoundaryRulesTest::oneRouteForEachLinkset);
        sentence("A destination has a set of routes", BoundaryRulesTest::everyRouteByItself);
        sentence("A route has a priority from 0 to 2", BoundaryRulesTest::prioritiesFromZeroToTwo);
        sentence("(0 is preferred)", BoundaryRulesTest::zeroIsPreferred);
        sentence("ALLOWED (0), RESTRICTED (1) or PROHIBITED (2)", BoundaryRulesTest::threeStates);
        sentence("A new route is ALLOWED.", BoundaryRulesTest::newRouteIsAllowed);
        sentence("A route is usable if it is not PROHIBITED", BoundaryRulesTest::usableUnlessProhibited);
        sentence("its linkset has at least one active link", BoundaryRulesTest::oneActiveLinkIsEnough);
        sentence("if it has usable routes that are ALLOWED, only these are considered",
            BoundaryRulesTest::allowedBeforeRestricted);
        sentence("otherwise all usable routes", BoundaryRulesTest::otherwiseAllUsable);
        sentence("those with the lowest priority number that occurs among them", BoundaryRulesTest::lowestThatOccurs);
        sentence("A destination is accessible if it has a current route.", BoundaryRulesTest::accessible);
    }

    private static void streams() {
        sentence("The selector is a number from 0 to 15.", BoundaryRulesTest::sixteenSelectors);
        sentence("the stream uses the route with the index (selector modulo m)", BoundaryRulesTest::routeIndex);
        sentence("ordered by the numbers of their linksets", BoundaryRulesTest::routesAreOrderedByLinkset);
        sentence("the stream uses the link with the index ((selector / m) modulo a)", BoundaryRulesTest::linkIndex);
        sentence("the number of active links of the linkset of this route, ordered by their numbers",
            BoundaryRulesTest::everySetOfActiveLinks);
        sentence("If the destination is not accessible, the stream has no current link.",
            BoundaryRulesTest::noCurrentLink);
    }

    private static void sending() {
        sentence("0, 1, 2, ... in the order in which send() is called successfully", BoundaryRulesTest::messageNumbers);
        sentence("A message has an importance from 0 to 3.", BoundaryRulesTest::importances);
        sentence("the message is discarded and the counter \"unreachable\" grows by 1",
            BoundaryRulesTest::dispatchWithoutLink);
        sentence("if the queue of the current link has 10 messages, the message is discarded",
            BoundaryRulesTest::dispatchToFullQueue);
        sentence("otherwise it is appended to that queue", BoundaryRulesTest::dispatchToTheLastPlace);
        sentence("To dispatch a message means", BoundaryRulesTest::dispatchLooksAtNoHolding);
        sentence("(1) If the stream is held (see below), the message is appended to the holding buffer",
            BoundaryRulesTest::heldStreamFillsTheBuffer);
        sentence("if that has 24 messages, it is discarded instead and \"lost\" grows by 1",
            BoundaryRulesTest::fullHoldingBuffer);
        sentence("the first of the following cases that applies decides", BoundaryRulesTest::holdingDecidesFirst);
        sentence("(2) If the stream has a current link", BoundaryRulesTest::withoutLinkThereIsNoCongestion);
        sentence("the congestion level of that link is greater than the importance",
            BoundaryRulesTest::levelAgainstImportance);
        sentence("(3) Otherwise the message is dispatched.", BoundaryRulesTest::congestionDecidesBeforeAFullQueue);
    }

    private static void changes() {
        sentence("its queue is emptied after the link has become failed", BoundaryRulesTest::nothingComesBackToTheLink);
        sentence("the messages of the queue are dispatched again in the order of the queue",
            BoundaryRulesTest::changeoverKeepsTheOrder);
        sentence("Congestion plays no role for them. (changeover)", BoundaryRulesTest::changeoverIntoCongestion);
        sentence("each stream that had a current link before the improvement", BoundaryRulesTest::noLinkBefore);
        sentence("and has another one afterwards", BoundaryRulesTest::sameLinkAfterwards);
        sentence("restoring a link", BoundaryRulesTest::restoringIsAnImprovement);
        sentence("adding a route", BoundaryRulesTest::addingIsAnImprovement);
        sentence("setting a route to a state with a lower number than before", BoundaryRulesTest::lowerStates);
        sentence("it becomes held until the time is (present time + hold time)", BoundaryRulesTest::everyHoldTime);
        sentence("if it is held already, this time replaces the earlier one", BoundaryRulesTest::replacedHoldTimes);
        sentence("If the hold time is 0, no stream is diverted", BoundaryRulesTest::holdTimeZero);
        sentence("streams that are already held stay as they are", BoundaryRulesTest::holdTimeZeroLeavesTheHeld);
        sentence("All other changes take effect at once (forced rerouting)", BoundaryRulesTest::forcedRerouting);
        sentence("streams that are held stay held", BoundaryRulesTest::otherChangesLeaveTheHeld);
    }

    private static void time() {
        sentence("The time is 0 at first.", () -> due("time", new SignallingPoint().time(), 0));
        sentence("A tick increases the time by 1.", BoundaryRulesTest::ticks);
        sentence("each stream that is held until this time is no longer held", BoundaryRulesTest::onlyTheseAreFreed);
        sentence("all messages in the holding buffer that belong to such streams are taken out",
            BoundaryRulesTest::fullBufferIsTakenOut);
        sentence("dispatched, in the order in which they came into the buffer", BoundaryRulesTest::orderOfTheBuffer);
        sentence("Congestion plays no role for them. (tick)", BoundaryRulesTest::releasedIntoCongestion);
    }

    private static void delivery() {
        sentence("Acknowledging messages on a link removes the oldest ones from its queue",
            BoundaryRulesTest::oldestAreRemoved);
        sentence("if a message of the same stream with a higher number was delivered before it",
            BoundaryRulesTest::overtakenByTheNextNumber);
        sentence("of the same stream", BoundaryRulesTest::otherStreamsOvertakeNothing);
        sentence("was delivered before it", BoundaryRulesTest::overtakenInOneCall);
    }

    private static void undo() {
        sentence("Every method that is marked \"undoable\" saves the whole state", BoundaryRulesTest::allAreSaved);
        sentence("the whole state", BoundaryRulesTest::messagesComeBack);
        sentence("except the error counters", BoundaryRulesTest::errorCountersAreNotSaved);
        sentence("when it succeeds", BoundaryRulesTest::failedCallsAndQuestionsAreNotSaved);
        sentence("also if it changes nothing", BoundaryRulesTest::callsWithoutAChangeAreSaved);
        sentence("The stack keeps the latest 4 saved states and drops older ones.", BoundaryRulesTest::latestFour);
    }

    private static void errors() {
        sentence("which grows by 1", BoundaryRulesTest::oneErrorForEachFailedCall);
        sentence("INVALID is returned before REJECTED", BoundaryRulesTest::invalidBeforeRejected);
        // No call can be both REJECTED and FULL: what the order decides is INVALID against FULL.
        sentence("and REJECTED before FULL", BoundaryRulesTest::invalidBeforeFull);
        sentence("NONE is returned only if no error applies.", BoundaryRulesTest::errorsBeforeNone);
    }

    // ---- how a sentence is tested

    private static void sentence(String words, Runnable test) {
        sentences++;
        holds = true;
        try {
            test.run();
        } catch (RuntimeException e) {
            holds = false;
            System.out.println("  threw " + e);
        }
        if (!holds) {
            wrong++;
            System.out.println("broken: " + words);
        }
    }

    private static void due(String what, long got, long want) {
        if (got != want) {
            holds = false;
            System.out.println("  " + what + " answered " + got + ", due is " + want);
        }
    }

    /** One linkset for each number of links. */
    private static SignallingPoint pointWith(int... links) {
        SignallingPoint x = new SignallingPoint();
        for (int count : links) {
            x.addLinkset(count);
        }
        return x;
    }

    /** One linkset, with a route of destination 0 over it. */
    private static SignallingPoint simplePoint(int links) {
        SignallingPoint x = pointWith(links);
        x.addRoute(0, 0, 0);
        return x;
    }

    /** Destination 0 over two links; the streams of even selectors, on link 0, are held for 3 ticks. */
    private static SignallingPoint heldPoint() {
        SignallingPoint x = simplePoint(2);
        moveTo(x, 0, 0);
        return x;
    }

    /** An improvement that moves streams to a link, if it is one of two. */
    private static int moveTo(SignallingPoint x, int linkset, int link) {
        x.failLink(linkset, link);
        return x.restoreLink(linkset, link);
    }

    /** Messages of the highest importance for destination 0. */
    private static void fill(SignallingPoint x, int selector, int count) {
        for (int i = 0; i < count; i++) {
            x.send(0, selector, 3);
        }
    }

    private static void ticks(SignallingPoint x, int count) {
        for (int i = 0; i < count; i++) {
            x.tick();
        }
    }

    private static void dueQueue(String what, SignallingPoint x, int linkset, int link, int... numbers) {
        due(what + ": length", x.queueLength(linkset, link), numbers.length);
        for (int i = 0; i < numbers.length; i++) {
            due(what + ": message at " + i, x.queued(linkset, link, i), numbers[i]);
        }
    }

    private static void dueDiscarded(String what, SignallingPoint x, int unreachable, int congested, int lost) {
        due(what + ": unreachable", x.unreachable(), unreachable);
        due(what + ": congested", x.congested(), congested);
        due(what + ": lost", x.lost(), lost);
    }

    /** Counts down the ticks for which the stream of destination 0 must still be held. */
    private static void dueHeldFor(String what, SignallingPoint x, int selector, int ticks) {
        for (int left = ticks; left > 0; left--) {
            due(what + ": held, ticks left: " + left, x.isHeld(0, selector), 1);
            x.tick();
        }
        due(what + ": no longer held", x.isHeld(0, selector), 0);
    }

    // ---- the life of an object

    private static void allOf512Calls() {
        SignallingPoint x = simplePoint(1);
        for (int i = 0; i < 507; i++) {
            due("message", x.send(0, 0, 3), i);
        }
        due("call 510", x.lost(), 497);
        due("call 511", x.acknowledge(0, 0, 10), 10);
        due("call 512", x.send(0, 0, 3), 507);

        SignallingPoint y = new SignallingPoint();
        ticks(y, 511);
        due("time at call 512", y.time(), 511);

        // The highest numbers, with the last stream, in a queue.
        SignallingPoint z = pointWith(1);
        for (int i = 0; i < 505; i++) {
            due("message without a route", z.send(5, 15, 3), i);
        }
        z.addRoute(5, 0, 0);
        due("a high number", z.send(5, 15, 0), 505);
        due("the highest", z.send(5, 15, 0), 506);
        due("it is queued", z.queued(0, 0, 1), 506);
        due("call 511, a high one", z.acknowledge(0, 0, 10), 2);
        due("call 512, a high one", z.overtaken(), 0);
    }

    // ---- linksets and links

    private static void atMostFourLinksets() {
        SignallingPoint x = new SignallingPoint();
        due("the first", x.addLinkset(1), 0);
        due("the second", x.addLinkset(1), 1);
        due("the third", x.addLinkset(1), 2);
        due("the fourth", x.addLinkset(1), 3);
        due("the fifth", x.addLinkset(1), FULL);
        due("a sixth", x.addLinkset(4), FULL);
        due("the last one", x.isActive(3, 0), 1);
        due("none behind it", x.isActive(4, 0), INVALID);
        x.undo();
        due("none where one was undone", x.isActive(3, 0), INVALID);
        due("room again", x.addLinkset(2), 3);
        due("full again", x.addLinkset(2), FULL);
    }

    private static void linksetsAreNumberedInOrder() {
        int[] links = {3, 1, 4, 2};
        SignallingPoint x = new SignallingPoint();
        for (int i = 0; i < 4; i++) {
            due("number", x.addLinkset(links[i]), i);
        }
        for (int i = 0; i < 4; i++) {
            due("its last link", x.isActive(i, links[i] - 1), 1);
            due("behind its last link", x.isActive(i, links[i]), INVALID);
        }
    }

    private static void oneToFourLinks() {
        due("no link", new SignallingPoint().addLinkset(0), INVALID);
        due("five links", new SignallingPoint().addLinkset(5), INVALID);
        for (int links = 1; links <= 4; links++) {
            SignallingPoint x = new SignallingPoint();
            due("links: " + links, x.addLinkset(links), 0);
            due("before the first", x.queueLength(0, -1), INVALID);
            for (int link = 0; link < links; link++) {
                due("link " + link, x.queueLength(0, link), 0);
            }
            due("behind the last", x.queueLength(0, links), INVALID);
        }
    }

    private static void activeAtFirst() {
        for (int links = 1; links <= 4; links++) {
            SignallingPoint x = pointWith(4, links);
            for (int link = 0; link < links; link++) {
                due("new link " + link + " of " + links, x.isActive(1, link), 1);
            }
        }
        SignallingPoint y = pointWith(2);
        y.failLink(0, 1);
        y.undo();
        y.undo();
        y.addLinkset(3);
        due("where a failed link was undone", y.isActive(0, 1), 1);
        due("where no link was", y.isActive(0, 2), 1);
    }

    private static void atMostTenInAQueue() {
        SignallingPoint x = simplePoint(1);
        for (int i = 1; i <= 10; i++) {
            x.send(0, 0, 3);
            due("length", x.queueLength(0, 0), i);
        }
        x.send(0, 0, 3);
        dueQueue("an eleventh", x, 0, 0, 0, 1, 2, 3, 4, 5, 6, 7, 8, 9);
        x.acknowledge(0, 0, 1);
        fill(x, 0, 2);
        dueQueue("room for one more", x, 0, 0, 1, 2, 3, 4, 5, 6, 7, 8, 9, 11);
    }

    private static void levels(int level, int shortest, int longest) {
        for (int length = shortest; length <= longest; length++) {
            SignallingPoint x = simplePoint(1);
            fill(x, 0, length);
            due("level of a queue that grew to " + length, x.congestion(0, 0), level);
            fill(x, 0, 10 - length);
            if (length < 10) {
                x.acknowledge(0, 0, 10 - length);
            }
            due("level of a queue that shrank to " + length, x.congestion(0, 0), level);
        }
    }

    // ---- routes

    private static void sixDestinations() {
        SignallingPoint x = pointWith(1);
        for (int destination = 0; destination < 6; destination++) {
            due("no route yet to " + destination, x.currentRoutes(destination), 0);
            due("route to " + destination, x.addRoute(destination, 0, 0), 0);
            due("then there is one", x.currentRoutes(destination), 1);
        }
        due("route to 6", x.addRoute(6, 0, 0), INVALID);
        due("route to -1", x.addRoute(-1, 0, 0), INVALID);
        due("routes to 6", x.currentRoutes(6), INVALID);
        due("routes to -1", x.currentRoutes(-1), INVALID);
    }

    private static void oneRouteForEachLinkset() {
        SignallingPoint x = pointWith(1, 1, 1, 1);
        for (int linkset = 0; linkset < 4; linkset++) {
            due("first over " + linkset, x.addRoute(2, linkset, 1), movedByRoute(linkset));
            due("same priority", x.addRoute(2, linkset, 1), REJECTED);
            due("another priority", x.addRoute(2, linkset, 0), REJECTED);
        }
        x.setRouteState(2, 3, PROHIBITED);
        due("over a prohibited one", x.addRoute(2, 3, 1), REJECTED);
        x.failLink(2, 0);
        due("over a failed one", x.addRoute(2, 2, 1), REJECTED);
        due("of another destination", x.addRoute(3, 3, 1), 0);
    }

    private static void everyRouteByItself() {
        SignallingPoint x = pointWith(1, 1, 1, 1);
        for (int route = 0; route < 24; route++) {
            due("no route yet", x.routeState(route / 4, route % 4), NONE);
            x.addRoute(route / 4, route % 4, route % 3);
            x.setRouteState(route / 4, route % 4, (route + 1) % 3);
        }
        for (int route = 0; route < 24; route++) {
            due("state", x.routeState(route / 4, route % 4), (route + 1) % 3);
        }
        due("removed", x.removeRoute(2, 3), 0);
        due("the same linkset, another destination", x.routeState(3, 3), 1);
        due("the next destination's first", x.routeState(3, 0), 1);
    }

    /** How many streams go over another route when a last one is added to so many. */
    private static int movedByRoute(int routes) {
        int moved = 0;
        for (int selector = 0; routes > 0 && selector < 16; selector++) {
            moved += selector % routes != selector % (routes + 1) ? 1 : 0;
        }
        return moved;
    }

    private static void prioritiesFromZeroToTwo() {
        for (int priority = 0; priority <= 2; priority++) {
            SignallingPoint x = pointWith(1);
            due("priority " + priority, x.addRoute(0, 0, priority), 0);
            due("is current", x.currentRoutes(0), 1);
        }
        SignallingPoint x = pointWith(1);
        due("priority -1", x.addRoute(0, 0, -1), INVALID);
        due("priority 3", x.addRoute(0, 0, 3), INVALID);
        due("no route came of it", x.routeState(0, 0), NONE);
    }

    private static void zeroIsPreferred() {
        SignallingPoint x = pointWith(1, 1, 1);
        x.addRoute(0, 0, 2);
        due("2 alone", x.currentRoutes(0), 1);
        x.addRoute(0, 1, 1);
        due("1 before 2", x.currentRoutes(0), 2);
        x.addRoute(0, 2, 0);
        due("0 before 1", x.currentRoutes(0), 4);
    }

    private static void threeStates() {
        due("ALLOWED", SignallingPoint.ALLOWED, 0);
        due("RESTRICTED", SignallingPoint.RESTRICTED, 1);
        due("PROHIBITED", SignallingPoint.PROHIBITED, 2);
        SignallingPoint x = simplePoint(1);
        for (int state = 0; state <= 2; state++) {
            x.setRouteState(0, 0, state);
            due("state", x.routeState(0, 0), state);
        }
        due("state -1", x.setRouteState(0, 0, -1), INVALID);
        due("state 3", x.setRouteState(0, 0, 3), INVALID);
        due("it stays", x.routeState(0, 0), PROHIBITED);
    }

    private static void newRouteIsAllowed() {
        SignallingPoint x = pointWith(1, 1);
        x.addRoute(0, 0, 2);
        due("the first", x.routeState(0, 0), ALLOWED);
        x.setRouteState(0, 0, PROHIBITED);
        x.removeRoute(0, 0);
        x.addRoute(0, 1, 1);
        x.addRoute(0, 0, 1);
        due("one that was prohibited before", x.routeState(0, 0), ALLOWED);
        due("with its new priority", x.currentRoutes(0), 3);
    }

    private static void usableUnlessProhibited() {
        SignallingPoint x = simplePoint(1);
        due("allowed", x.currentRoutes(0), 1);
        x.setRouteState(0, 0, RESTRICTED);
        due("restricted", x.currentRoutes(0), 1);
        x.setRouteState(0, 0, PROHIBITED);
        due("prohibited", x.currentRoutes(0), 0);
    }

    private static void oneActiveLinkIsEnough() {
        for (int last = 0; last < 4; last++) {
            SignallingPoint x = simplePoint(4);
            for (int link = 0; link < 4; link++) {
                if (link != last) {
                    x.failLink(0, link);
                    due("usable without link " + link, x.currentRoutes(0), 1);
                }
            }
            x.failLink(0, last);
            due("not without the last", x.currentRoutes(0), 0);
            x.restoreLink(0, last);
            due("with the last alone", x.currentRoutes(0), 1);
        }
    }

    private static void allowedBeforeRestricted() {
        SignallingPoint x = pointWith(1, 1);
        x.addRoute(0, 0, 0);
        x.addRoute(0, 1, 2);
        x.setRouteState(0, 0, RESTRICTED);
        due("the worst priority, but allowed", x.currentRoutes(0), 2);
        x.failLink(1, 0);
        due("allowed, but not usable", x.currentRoutes(0), 1);
    }

    private static void otherwiseAllUsable() {
        SignallingPoint x = pointWith(1, 1, 1, 1);
        for (int linkset = 0; linkset < 4; linkset++) {
            x.addRoute(0, linkset, 1);
            x.setRouteState(0, linkset, linkset == 1 ? PROHIBITED : RESTRICTED);
        }
        due("all restricted ones", x.currentRoutes(0), 13);
        x.failLink(3, 0);
        due("but those without a link", x.currentRoutes(0), 5);
        x.setRouteState(0, 2, ALLOWED);
        due("until one is allowed", x.currentRoutes(0), 4);
    }

    private static void lowestThatOccurs() {
        SignallingPoint x = pointWith(1, 1, 1, 1);
        x.addRoute(0, 0, 2);
        x.addRoute(0, 1, 0);
        x.addRoute(0, 2, 2);
        x.addRoute(0, 3, 0);
        due("0 occurs", x.currentRoutes(0), 10);
        x.setRouteState(0, 1, PROHIBITED);
        due("0 occurs once", x.currentRoutes(0), 8);
        x.failLink(3, 0);
        due("0 and 1 do not occur among the usable", x.currentRoutes(0), 5);
        x.setRouteState(0, 0, RESTRICTED);
        x.setRouteState(0, 1, RESTRICTED);
        due("0 does not occur among the allowed", x.currentRoutes(0), 4);
        x.setRouteState(0, 2, RESTRICTED);
        due("0 occurs among the restricted", x.currentRoutes(0), 2);
    }

    private static void accessible() {
        SignallingPoint x = pointWith(1);
        due("no route", x.currentLink(0, 0), NONE);
        x.addRoute(0, 0, 2);
        due("a route", x.currentLink(0, 0), 0);
        x.setRouteState(0, 0, PROHIBITED);
        due("no current route", x.currentLink(0, 0), NONE);
        due("no link is used", x.spread(0), 0);
    }

    // ---- streams

    private static void sixteenSelectors() {
        SignallingPoint x = simplePoint(1);
        for (int selector = 0; selector < 16; selector++) {
            due("selector " + selector, x.currentLink(0, selector), 0);
        }
        due("selector -1", x.currentLink(0, -1), INVALID);
        due("selector 16", x.currentLink(0, 16), INVALID);
        due("selector 16 is not destination 1", x.send(0, 16, 0), INVALID);
        due("selector -1 is not destination 0", x.isHeld(1, -1), INVALID);
    }

    private static void routeIndex() {
        for (int m = 1; m <= 4; m++) {
            SignallingPoint x = pointWith(1, 1, 1, 1);
            for (int linkset = 0; linkset < m; linkset++) {
                x.addRoute(5, linkset, 0);
            }
            for (int selector = 0; selector < 16; selector++) {
                due("m = " + m + ", selector " + selector, x.currentLink(5, selector), 4 * (selector % m));
            }
        }
    }

    private static void routesAreOrderedByLinkset() {
        SignallingPoint x = pointWith(1, 1, 1, 1);
        x.addRoute(0, 3, 0);
        x.addRoute(0, 1, 0);
        x.addRoute(0, 0, 1);
        due("the first of two", x.currentLink(0, 14), 4);
        due("the second of two", x.currentLink(0, 15), 12);
        x.addRoute(0, 2, 0);
        due("the first of three", x.currentLink(0, 15), 4);
        due("the second of three", x.currentLink(0, 1), 8);
        due("the third of three", x.currentLink(0, 14), 12);
    }

    private static void linkIndex() {
        for (int m = 1; m <= 4; m++) {
            SignallingPoint x = pointWith(4, 3, 2, 1);
            for (int linkset = 0; linkset < m; linkset++) {
                x.addRoute(1, linkset, 2);
            }
            for (int selector = 0; selector < 16; selector++) {
                int linkset = selector % m;
                int want = 4 * linkset + selector / m % (4 - linkset);
                due("m = " + m + ", selector " + selector, x.currentLink(1, selector), want);
            }
        }
    }

    private static void everySetOfActiveLinks() {
        for (int active = 1; active < 16; active++) {
            SignallingPoint x = simplePoint(4);
            int[] numbers = new int[4];
            int a = 0;
            for (int link = 0; link < 4; link++) {
                if ((active >> link & 1) == 1) {
                    numbers[a] = link;
                    a++;
                } else {
                    x.failLink(0, link);
                }
            }
            for (int selector = 0; selector < 16; selector++) {
                due("active " + active + ", selector " + selector, x.currentLink(0, selector), numbers[selector % a]);
            }
            due("spread", x.spread(0), a);
        }
    }

    private static void noCurrentLink() {
        SignallingPoint x = simplePoint(1);
        x.failLink(0, 0);
        for (int selector = 0; selector < 16; selector++) {
            due("selector " + selector, x.currentLink(0, selector), NONE);
            due("of a destination without routes", x.currentLink(5, selector), NONE);
        }
    }

    // ---- sending

    private static void messageNumbers() {
        SignallingPoint x = simplePoint(1);
        due("a failed call before", x.send(0, 16, 0), INVALID);
        due("the first", x.send(0, 0, 0), 0);
        due("a failed call between", x.send(6, 0, 0), INVALID);
        due("an unreachable one", x.send(1, 0, 0), 1);
        fill(x, 0, 9);
        due("a congested one", x.send(0, 0, 0), 11);
        due("a lost one", x.send(0, 0, 3), 12);
        x.undo();
        due("the number of an undone one", x.send(0, 1, 3), 12);
        due("the next", x.send(0, 1, 3), 13);
    }

    private static void importances() {
        SignallingPoint x = simplePoint(1);
        for (int importance = 0; importance <= 3; importance++) {
            due("importance " + importance, x.send(0, 0, importance), importance);
        }
        due("importance -1", x.send(0, 0, -1), INVALID);
        due("importance 4", x.send(0, 0, 4), INVALID);
        due("only four were sent", x.queueLength(0, 0), 4);
    }

    private static void dispatchWithoutLink() {
        SignallingPoint x = simplePoint(1);
        fill(x, 0, 10);
        x.failLink(0, 0);
        dueDiscarded("changeover without a link", x, 10, 0, 0);
        x.send(0, 0, 3);
        dueDiscarded("send without a link", x, 11, 0, 0);

        SignallingPoint y = heldPoint();
        y.send(0, 0, 3);
        y.removeRoute(0, 0);
        ticks(y, 3);
        dueDiscarded("tick without a link", y, 1, 0, 0);
        due("it is not kept", y.heldMessages(), 0);
    }

    private static void dispatchToFullQueue() {
        SignallingPoint x = simplePoint(2);
        fill(x, 0, 1);
        fill(x, 1, 10);
        x.send(0, 1, 3);
        dueDiscarded("send", x, 0, 0, 1);
        x.failLink(0, 0);
        dueDiscarded("changeover", x, 0, 0, 2);
        dueQueue("the queue", x, 0, 1, 1, 2, 3, 4, 5, 6, 7, 8, 9, 10);

        SignallingPoint y = heldPoint();
        y.send(0, 0, 0);
        y.failLink(0, 0);
        fill(y, 1, 10);
        ticks(y, 3);
        dueDiscarded("tick", y, 0, 0, 1);
        due("it is not kept", y.heldMessages(), 0);
    }

    private static void dispatchToTheLastPlace() {
        SignallingPoint x = simplePoint(2);
        fill(x, 0, 1);
        fill(x, 1, 9);
        x.failLink(0, 0);
        dueQueue("changeover", x, 0, 1, 1, 2, 3, 4, 5, 6, 7, 8, 9, 0);
        dueDiscarded("changeover", x, 0, 0, 0);

        SignallingPoint y = simplePoint(1);
        fill(y, 0, 10);
        due("send", y.queued(0, 0, 9), 9);
        dueDiscarded("send", y, 0, 0, 0);
    }

    private static void dispatchLooksAtNoHolding() {
        SignallingPoint x = simplePoint(2);
        x.failLink(0, 0);
        fill(x, 0, 1);
        x.restoreLink(0, 0);
        due("the stream is held", x.isHeld(0, 0), 1);
        x.send(0, 0, 0);
        due("taken", x.failLink(0, 1), 1);
        dueQueue("dispatched at once", x, 0, 0, 0);
        due("only the later one is in the buffer", x.heldMessages(), 1);
    }

    private static void heldStreamFillsTheBuffer() {
        SignallingPoint x = heldPoint();
        for (int i = 1; i <= 24; i++) {
            x.send(0, 2 * (i % 8), 0);
            due("held messages", x.heldMessages(), i);
        }
        dueDiscarded("24 messages", x, 0, 0, 0);
        due("none is queued", x.queueLength(0, 0) + x.queueLength(0, 1), 0);
        x.send(0, 1, 0);
        due("a stream that is not held", x.queueLength(0, 1), 1);
    }

    private static void fullHoldingBuffer() {
        SignallingPoint x = heldPoint();
        fill(x, 0, 24);
        due("the 25th has a number", x.send(0, 0, 3), 24);
        due("another stream", x.send(0, 14, 0), 25);
        due("held messages", x.heldMessages(), 24);
        dueDiscarded("two too many", x, 0, 0, 2);
        due("not queued instead", x.queueLength(0, 0), 0);
        x.undo();
        x.undo();
        x.undo();
        due("room for one", x.heldMessages(), 23);
        fill(x, 0, 2);
        due("the room is used", x.heldMessages(), 24);
        dueDiscarded("one too many", x, 0, 0, 1);
    }

    private static void holdingDecidesFirst() {
        SignallingPoint x = heldPoint();
        x.failLink(0, 0);
        fill(x, 1, 10);
        x.send(0, 0, 0);
        due("held, though its link is congested and full", x.heldMessages(), 1);
        x.failLink(0, 1);
        x.send(0, 0, 0);
        due("held, though there is no link", x.heldMessages(), 2);
        fill(x, 0, 22);
        int unreachable = x.unreachable();
        x.send(0, 0, 0);
        dueDiscarded("lost, though there is no link", x, unreachable, 0, 1);
    }

    private static void withoutLinkThereIsNoCongestion() {
        SignallingPoint x = simplePoint(1);
        fill(x, 0, 10);
        x.setRouteState(0, 0, PROHIBITED);
        for (int importance = 0; importance <= 3; importance++) {
            x.send(0, 0, importance);
            dueDiscarded("importance " + importance, x, importance + 1, 0, 0);
        }
        due("the queue stays", x.queueLength(0, 0), 10);
    }

    private static void levelAgainstImportance() {
        int[] shortest = {0, 4, 6, 8};
        for (int level = 0; level <= 3; level++) {
            for (int importance = 0; importance <= 3; importance++) {
                SignallingPoint x = simplePoint(1);
                fill(x, 0, shortest[level]);
                x.send(0, 0, importance);
                boolean passes = importance >= level;
                String what = "level " + level + ", importance " + importance;
                due(what, x.queueLength(0, 0), shortest[level] + (passes ? 1 : 0));
                dueDiscarded(what, x, 0, passes ? 0 : 1, 0);
            }
        }
        SignallingPoint y = simplePoint(2);
        fill(y, 0, 10);
        y.send(0, 1, 0);
        due("the level of another link does not count", y.queueLength(0, 1), 1);
    }

    private static void congestionDecidesBeforeAFullQueue() {
        SignallingPoint x = simplePoint(1);
        fill(x, 0, 10);
        x.send(0, 0, 2);
        dueDiscarded("importance 2", x, 0, 1, 0);
        x.send(0, 0, 3);
        dueDiscarded("importance 3", x, 0, 1, 1);
    }

    // ---- changes

    private static void nothingComesBackToTheLink() {
        SignallingPoint x = simplePoint(2);
        fill(x, 0, 10);
        due("taken", x.failLink(0, 0), 10);
        due("emptied", x.queueLength(0, 0), 0);
        due("on the other link", x.queueLength(0, 1), 10);
        due("the last link", x.failLink(0, 1), 10);
        due("emptied, too", x.queueLength(0, 1), 0);
        dueDiscarded("none of them is left", x, 10, 0, 0);
        due("an empty one", simplePoint(1).failLink(0, 0), 0);
    }

    private static void changeoverKeepsTheOrder() {
        SignallingPoint x = simplePoint(3);
        x.send(0, 1, 0);
        x.send(0, 2, 0);
        x.send(0, 0, 0);
        x.send(0, 3, 0);
        x.send(0, 6, 0);
        x.send(0, 9, 0);
        // Of the streams on link 0, those of selectors 0 and 6 go to link 1, the others to link 2.
        due("taken", x.failLink(0, 0), 4);
        dueQueue("link 1", x, 0, 1, 0, 2, 4);
        dueQueue("link 2", x, 0, 2, 1, 3, 5);
        due("taken again", x.failLink(0, 1), 3);
        dueQueue("behind what was there", x, 0, 2, 1, 3, 5, 0, 2, 4);
    }

    private static void changeoverIntoCongestion() {
        SignallingPoint x = simplePoint(2);
        for (int i = 0; i < 4; i++) {
            x.send(0, 0, 0);
        }
        fill(x, 1, 8);
        due("level", x.congestion(0, 1), 3);
        due("taken", x.failLink(0, 0), 4);
        dueQueue("as many as there is room for", x, 0, 1, 4, 5, 6, 7, 8, 9, 10, 11, 0, 1);
        dueDiscarded("the rest", x, 0, 0, 2);
    }

    private static void noLinkBefore() {
        SignallingPoint x = simplePoint(1);
        due("the first route", x.isHeld(0, 0), 0);
        x.failLink(0, 0);
        due("the last link comes back", x.restoreLink(0, 0), 0);
        due("no stream is held", x.isHeld(0, 0), 0);
        x.setRouteState(0, 0, PROHIBITED);
        x.setRouteState(0, 0, ALLOWED);
        due("the last route comes back", x.isHeld(0, 0), 0);
        x.send(0, 0, 0);
        due("nothing is put into the buffer", x.heldMessages(), 0);
    }

    private static void sameLinkAfterwards() {
        SignallingPoint x = pointWith(2, 1);
        x.addRoute(0, 0, 0);
        due("half of the streams", moveTo(x, 0, 1), 8);
        for (int selector = 0; selector < 16; selector++) {
            due("selector " + selector, x.isHeld(0, selector), selector % 2);
        }
        due("none by a worse route", x.addRoute(0, 1, 1), 0);
        due("none by a link that is not used", moveTo(x, 1, 0), 0);
        due("none by a route of another destination", x.addRoute(1, 1, 0), 0);
    }

    private static void restoringIsAnImprovement() {
        SignallingPoint x = pointWith(1, 1);
        for (int destination = 0; destination < 6; destination++) {
            x.addRoute(destination, 0, 0);
            x.addRoute(destination, 1, 1);
        }
        due("all streams of all destinations", moveTo(x, 0, 0), 96);
        due("the first stream", x.isHeld(0, 0), 1);
        due("the last stream", x.isHeld(5, 15), 1);
    }

    private static void addingIsAnImprovement() {
        SignallingPoint x = pointWith(1, 1, 1, 1);
        x.addRoute(5, 0, 2);
        due("all streams of a destination", x.addRoute(5, 1, 1), 16);
        due("again, though they are held", x.addRoute(5, 2, 0), 16);
        due("half of them", x.addRoute(5, 3, 0), 8);
        due("the last stream", x.isHeld(5, 15), 1);
        due("another destination", x.isHeld(4, 15), 0);
    }

    private static void lowerStates() {
        int[][] changes = {{0, 0}, {0, 1}, {0, 2}, {1, 0}, {1, 1}, {1, 2}, {2, 0}, {2, 1}, {2, 2}};
        for (int[] change : changes) {
            SignallingPoint x = pointWith(1, 1);
            x.addRoute(0, 1, 1);
            x.setRouteState(0, 1, RESTRICTED);
            x.addRoute(0, 0, 0);
            x.setRouteState(0, 0, change[0]);
            ticks(x, 3);
            due("not held before", x.isHeld(0, 0), 0);
            x.setRouteState(0, 0, change[1]);
            // Over linkset 1 while the better route is prohibited, over linkset 0 otherwise.
            boolean moves = change[0] == PROHIBITED && change[1] != PROHIBITED;
            due("from " + change[0] + " to " + change[1], x.isHeld(0, 0), moves ? 1 : 0);
        }
        SignallingPoint y = pointWith(1, 1);
        y.addRoute(0, 0, 0);
        y.addRoute(0, 1, 1);
        y.setRouteState(0, 0, RESTRICTED);
        due("to a higher state", y.isHeld(0, 0), 0);
        y.setRouteState(0, 0, ALLOWED);
        due("from RESTRICTED to ALLOWED", y.isHeld(0, 0), 1);
    }

    private static void everyHoldTime() {
        for (int hold = 1; hold <= 9; hold++) {
            SignallingPoint x = simplePoint(2);
            ticks(x, 5);
            x.setHoldTime(hold);
            due("diverted", moveTo(x, 0, 0), 8);
            dueHeldFor("hold time " + hold, x, 0, hold);
        }
        dueHeldFor("the hold time at first", heldPoint(), 0, 3);
    }

    private static void replacedHoldTimes() {
        SignallingPoint later = heldPoint();
        ticks(later, 2);
        due("counted again", moveTo(later, 0, 0), 8);
        dueHeldFor("a later time", later, 0, 3);

        SignallingPoint earlier = simplePoint(2);
        earlier.setHoldTime(9);
        moveTo(earlier, 0, 0);
        earlier.send(0, 0, 0);
        earlier.setHoldTime(1);
        due("counted again", moveTo(earlier, 0, 0), 8);
        due("held by now", earlier.isHeld(0, 0), 1);
        due("freed at the earlier time", earlier.tick(), 1);
        due("no longer held", earlier.isHeld(0, 0), 0);
        ticks(earlier, 8);
        due("the message is queued once", earlier.queueLength(0, 0), 1);

        SignallingPoint one = heldPoint();
        one.tick();
        due("the other half", moveTo(one, 0, 1), 8);
        ticks(one, 2);
        due("its own time has come", one.isHeld(0, 0), 0);
        due("not that of the other half", one.isHeld(0, 1), 1);
    }

    private static void holdTimeZero() {
        SignallingPoint x = pointWith(2, 1);
        x.setHoldTime(0);
        x.addRoute(0, 0, 1);
        due("restoring a link", moveTo(x, 0, 0), 0);
        due("adding a route", x.addRoute(0, 1, 0), 0);
        x.setRouteState(0, 1, PROHIBITED);
        due("setting a state", x.setRouteState(0, 1, ALLOWED), PROHIBITED);
        due("the stream is moved", x.currentLink(0, 0), 4);
        for (int selector = 0; selector < 16; selector++) {
            due("selector " + selector, x.isHeld(0, selector), 0);
        }
        x.send(0, 0, 0);
        due("sent at once", x.queueLength(1, 0), 1);
    }

    private static void holdTimeZeroLeavesTheHeld() {
        SignallingPoint x = heldPoint();
        x.tick();
        x.send(0, 0, 0);
        x.setHoldTime(0);
        due("moved again", moveTo(x, 0, 0), 0);
        due("its message stays", x.heldMessages(), 1);
        dueHeldFor("the earlier time", x, 0, 2);
        due("then it is sent", x.queueLength(0, 0), 1);
    }

    private static void forcedRerouting() {
        SignallingPoint x = pointWith(2, 1);
        x.addRoute(0, 0, 0);
        x.addRoute(0, 1, 1);
        x.failLink(0, 0);
        due("a failed link", x.currentLink(0, 0), 1);
        x.setRouteState(0, 0, RESTRICTED);
        due("a restricted route", x.currentLink(0, 0), 4);
        x.setRouteState(0, 1, RESTRICTED);
        due("both restricted", x.currentLink(0, 0), 1);
        x.setRouteState(0, 0, PROHIBITED);
        due("a prohibited route", x.currentLink(0, 0), 4);
        x.removeRoute(0, 1);
        due("a removed route", x.currentLink(0, 0), NONE);
        x.addLinkset(4);
        x.setHoldTime(9);
        for (int selector = 0; selector < 16; selector++) {
            due("held, selector " + selector, x.isHeld(0, selector), 0);
        }
    }

    private static void otherChangesLeaveTheHeld() {
        SignallingPoint x = heldPoint();
        x.send(0, 0, 0);
        x.addLinkset(1);
        x.setHoldTime(9);
        x.failLink(0, 0);
        due("after a failed link", x.isHeld(0, 0), 1);
        x.tick();
        x.setRouteState(0, 0, RESTRICTED);
        x.setRouteState(0, 0, RESTRICTED);
        x.setRouteState(0, 0, PROHIBITED);
        due("after worse states", x.isHeld(0, 0), 1);
        x.removeRoute(0, 0);
        due("after a removed route", x.isHeld(0, 0), 1);
        due("its message stays", x.heldMessages(), 1);
        dueHeldFor("the same time", x, 0, 2);
    }

    // ---- time

    private static void ticks() {
        SignallingPoint x = new SignallingPoint();
        for (int i = 1; i <= 100; i++) {
            due("messages", x.tick(), 0);
            due("time", x.time(), i);
        }
        x.undo();
        due("undone", x.time(), 99);
    }

    private static void onlyTheseAreFreed() {
        SignallingPoint x = simplePoint(2);
        x.addLinkset(2);
        x.addRoute(1, 1, 0);
        moveTo(x, 0, 0);
        x.tick();
        moveTo(x, 1, 0);
        x.send(0, 0, 0);
        x.send(1, 0, 0);
        due("the tick before", x.tick(), 0);
        due("still held", x.isHeld(0, 0), 1);
        due("the tick at which it is freed", x.tick(), 1);
        due("no longer held", x.isHeld(0, 0), 0);
        due("held until one tick later", x.isHeld(1, 0), 1);
        due("its message stays", x.heldMessages(), 1);
        due("the tick after", x.tick(), 1);
        due("no longer held, either", x.isHeld(1, 0), 0);
        due("nothing is left", x.tick(), 0);
    }

    private static void fullBufferIsTakenOut() {
        SignallingPoint x = pointWith(4, 1);
        x.addRoute(0, 1, 1);
        due("all are diverted", x.addRoute(0, 0, 0), 16);
        for (int i = 0; i < 24; i++) {
            x.send(0, i % 16, 0);
        }
        due("the first tick", x.tick(), 0);
        due("the second tick", x.tick(), 0);
        due("full", x.heldMessages(), 24);
        due("the third tick", x.tick(), 24);
        due("empty", x.heldMessages(), 0);
        dueQueue("every fourth", x, 0, 3, 3, 7, 11, 15, 19, 23);
        dueDiscarded("all have room", x, 0, 0, 0);
        moveTo(x, 0, 0);
        x.send(0, 0, 0);
        due("there is room in the buffer again", x.heldMessages(), 1);
    }

    private static void orderOfTheBuffer() {
        SignallingPoint x = pointWith(2, 2);
        x.addRoute(0, 0, 0);
        x.addRoute(1, 1, 0);
        moveTo(x, 0, 0);
        x.tick();
        moveTo(x, 1, 0);
        int[][] messages = {{1, 2}, {0, 4}, {1, 0}, {0, 0}, {0, 4}, {1, 2}, {0, 2}};
        for (int[] message : messages) {
            x.send(message[0], message[1], 0);
        }
        x.tick();
        due("those of destination 0", x.tick(), 4);
        dueQueue("in their order", x, 0, 0, 1, 3, 4, 6);
        x.send(1, 4, 0);
        due("those of destination 1", x.tick(), 4);
        dueQueue("in their order, too", x, 1, 0, 0, 2, 5, 7);
    }

    private static void releasedIntoCongestion() {
        SignallingPoint x = heldPoint();
        for (int i = 0; i < 3; i++) {
            x.send(0, 0, 0);
        }
        x.failLink(0, 0);
        fill(x, 1, 8);
        ticks(x, 2);
        due("taken out", x.tick(), 3);
        dueQueue("as many as there is room for", x, 0, 1, 3, 4, 5, 6, 7, 8, 9, 10, 0, 1);
        dueDiscarded("the rest", x, 0, 0, 1);
    }

    // ---- delivery

    private static void oldestAreRemoved() {
        for (int count = 1; count <= 10; count++) {
            SignallingPoint x = simplePoint(1);
            fill(x, 0, 10);
            due("count " + count, x.acknowledge(0, 0, count), count);
            due("length", x.queueLength(0, 0), 10 - count);
            for (int index = 0; index < 10; index++) {
                due("left at " + index, x.queued(0, 0, index), index < 10 - count ? count + index : NONE);
            }
            due("delivered", x.delivered(), count);
        }
    }

    /** Messages 0 and 1 of stream (0, 0): 0 on link 1, and 1 on link 0, where it may be delivered first. */
    private static SignallingPoint crossedPoint() {
        SignallingPoint x = simplePoint(2);
        x.setHoldTime(0);
        x.failLink(0, 0);
        x.send(0, 0, 0);
        x.restoreLink(0, 0);
        x.send(0, 0, 0);
        return x;
    }

    private static void overtakenByTheNextNumber() {
        SignallingPoint x = crossedPoint();
        x.acknowledge(0, 0, 1);
        due("the higher number", x.overtaken(), 0);
        x.acknowledge(0, 1, 1);
        due("the lower number, later", x.overtaken(), 1);
        x.send(0, 0, 0);
        x.acknowledge(0, 0, 1);
        due("the next higher number", x.overtaken(), 1);

        SignallingPoint y = crossedPoint();
        y.acknowledge(0, 1, 1);
        y.acknowledge(0, 0, 1);
        due("in order", y.overtaken(), 0);

        SignallingPoint z = crossedPoint();
        z.acknowledge(0, 0, 1);
        z.undo();
        z.acknowledge(0, 1, 1);
        due("an undone delivery", z.overtaken(), 0);
    }

    private static void otherStreamsOvertakeNothing() {
        SignallingPoint x = simplePoint(2);
        x.addRoute(1, 0, 0);
        x.send(0, 1, 0);
        x.send(0, 0, 0);
        x.send(1, 0, 0);
        x.send(1, 1, 0);
        x.acknowledge(0, 0, 2);
        x.acknowledge(0, 1, 1);
        due("another selector", x.overtaken(), 0);
        due("delivered", x.delivered(), 3);

        SignallingPoint y = pointWith(1, 1);
        y.addRoute(0, 0, 0);
        y.addRoute(1, 1, 0);
        y.send(0, 3, 0);
        y.send(1, 3, 0);
        y.acknowledge(1, 0, 1);
        y.acknowledge(0, 0, 1);
        due("another destination", y.overtaken(), 0);
    }

    private static void overtakenInOneCall() {
        SignallingPoint x = crossedPoint();
        x.failLink(0, 1);
        dueQueue("the lower number behind the higher", x, 0, 0, 1, 0);
        x.acknowledge(0, 0, 2);
        due("overtaken in one call", x.overtaken(), 1);

        SignallingPoint y = simplePoint(2);
        y.setHoldTime(0);
        y.failLink(0, 0);
        fill(y, 0, 2);
        y.restoreLink(0, 0);
        fill(y, 0, 2);
        y.failLink(0, 1);
        dueQueue("two behind two", y, 0, 0, 2, 3, 0, 1);
        y.acknowledge(0, 0, 3);
        due("each is counted once", y.overtaken(), 1);
        y.acknowledge(0, 0, 1);
        due("a lower number before it changes nothing", y.overtaken(), 2);
        due("delivered", y.delivered(), 4);
    }

    // ---- undo

    private static void allAreSaved() {
        for (int method = 0; method < 10; method++) {
            SignallingPoint x = pointWith(2);
            x.addRoute(0, 0, 0);
            x.failLink(0, 1);
            long before = x.digest();
            change(x, method);
            due("states, method " + method, x.undo(), 3);
            due("the state before, method " + method, x.digest(), before);
        }
        SignallingPoint y = heldPoint();
        y.send(0, 0, 0);
        y.tick();
        y.tick();
        y.undo();
        y.tick();
        due("the time until which a stream is held", y.tick(), 1);
    }

    private static void change(SignallingPoint x, int method) {
        switch (method) {
            case 0 -> due("addLinkset", x.addLinkset(1), 1);
            case 1 -> due("failLink", x.failLink(0, 0), 0);
            case 2 -> due("restoreLink", x.restoreLink(0, 1), 8);
            case 3 -> due("acknowledge", x.acknowledge(0, 0, 1), 0);
            case 4 -> due("addRoute", x.addRoute(1, 0, 0), 0);
            case 5 -> due("removeRoute", x.removeRoute(0, 0), 0);
            case 6 -> due("setRouteState", x.setRouteState(0, 0, 2), 0);
            case 7 -> due("send", x.send(0, 0, 0), 0);
            case 8 -> due("setHoldTime", x.setHoldTime(0), 3);
            default -> due("tick", x.tick(), 0);
        }
    }

    private static void messagesComeBack() {
        SignallingPoint x = simplePoint(1);
        fill(x, 0, 10);
        x.acknowledge(0, 0, 9);
        fill(x, 0, 2);
        dueQueue("a queue with other messages", x, 0, 0, 9, 10, 11);
        x.undo();
        x.undo();
        x.undo();
        dueQueue("a full queue", x, 0, 0, 0, 1, 2, 3, 4, 5, 6, 7, 8, 9);
        due("nothing is delivered", x.delivered(), 0);

        // The third tick leaves the second message alone in the buffer, at another place.
        SignallingPoint y = pointWith(2, 2);
        y.addRoute(0, 0, 0);
        y.addRoute(1, 1, 0);
        moveTo(y, 0, 0);
        y.tick();
        moveTo(y, 1, 0);
        y.send(0, 0, 0);
        y.send(1, 0, 0);
        y.tick();
        due("the first is taken out", y.tick(), 1);
        y.undo();
        due("both are in the buffer", y.heldMessages(), 2);
        due("the first again", y.tick(), 1);
        dueQueue("the first", y, 0, 0, 0);
        due("then the second", y.tick(), 1);
        dueQueue("the second", y, 1, 0, 1);
    }

    private static void errorCountersAreNotSaved() {
        SignallingPoint x = pointWith(1, 1, 1, 1);
        x.addLinkset(5);
        x.addLinkset(1);
        x.restoreLink(0, 0);
        for (int left = 3; left >= 0; left--) {
            due("states", x.undo(), left);
            for (int kind = 0; kind < 3; kind++) {
                due("errors of kind " + kind, x.errorCount(kind), 1);
            }
        }
    }

    private static void failedCallsAndQuestionsAreNotSaved() {
        SignallingPoint x = new SignallingPoint();
        x.addLinkset(0);
        x.send(6, 0, 0);
        x.setHoldTime(10);
        due("after failed calls", x.undo(), REJECTED);
        askEverything(x);
        due("after questions", x.undo(), REJECTED);
        x.addLinkset(1);
        x.failLink(0, 1);
        x.restoreLink(0, 0);
        x.removeRoute(0, 0);
        x.setRouteState(0, 0, 0);
        x.addRoute(0, 0, 3);
        x.acknowledge(0, 0, 11);
        askEverything(x);
        due("one state", x.undo(), 0);
        due("an undo is not saved", x.undo(), REJECTED);
    }

    private static void askEverything(SignallingPoint x) {
        x.queueLength(0, 0);
        x.queued(0, 0, 0);
        x.congestion(0, 0);
        x.isActive(0, 0);
        x.routeState(0, 0);
        x.currentRoutes(0);
        x.currentLink(0, 0);
        x.time();
        x.isHeld(0, 0);
        x.heldMessages();
        x.delivered();
        x.overtaken();
        x.unreachable();
        x.congested();
        x.lost();
        x.spread(0);
        x.errorCount(0);
        x.digest();
    }

    private static void callsWithoutAChangeAreSaved() {
        SignallingPoint x = simplePoint(1);
        due("an empty queue", x.acknowledge(0, 0, 10), 0);
        due("it is saved", x.undo(), 2);
        due("the same state", x.setRouteState(0, 0, ALLOWED), ALLOWED);
        due("it is saved, too", x.undo(), 2);
        due("the same hold time", x.setHoldTime(3), 3);
        due("and this", x.undo(), 2);
        x.failLink(0, 0);
        due("the queue of a failed link", x.acknowledge(0, 0, 1), 0);
        due("and this one", x.undo(), 3);
    }

    private static void latestFour() {
        for (int saves = 0; saves <= 12; saves++) {
            SignallingPoint x = new SignallingPoint();
            ticks(x, saves);
            int kept = Math.min(saves, 4);
            for (int left = kept - 1; left >= 0; left--) {
                due("states after " + saves + " saves", x.undo(), left);
                due("the time then", x.time(), saves - kept + left);
            }
            due("no more after " + saves + " saves", x.undo(), REJECTED);
            due("the oldest time", x.time(), saves - kept);
        }
        SignallingPoint y = new SignallingPoint();
        ticks(y, 6);
        y.undo();
        y.undo();
        ticks(y, 3);
        for (int left = 3; left >= 0; left--) {
            due("saved after an undo", y.undo(), left);
            due("the time then", y.time(), 3 + left);
        }
        due("the rest was dropped", y.undo(), REJECTED);
    }

    // ---- errors

    private static void dueErrors(String what, SignallingPoint x, int invalid, int rejected, int full) {
        due(what + ": INVALID", x.errorCount(0), invalid);
        due(what + ": REJECTED", x.errorCount(1), rejected);
        due(what + ": FULL", x.errorCount(2), full);
    }

    private static void oneErrorForEachFailedCall() {
        SignallingPoint x = pointWith(1, 1, 1, 1);
        dueErrors("none", x, 0, 0, 0);
        x.send(-1, 16, 4);
        dueErrors("three wrong arguments", x, 1, 0, 0);
        x.addLinkset(4);
        dueErrors("full", x, 1, 0, 1);
        x.restoreLink(3, 0);
        dueErrors("rejected", x, 1, 1, 1);
        x.addLinkset(0);
        dueErrors("invalid and full", x, 2, 1, 1);
        x.addRoute(0, 0, 0);
        x.addRoute(0, 0, 3);
        dueErrors("invalid and rejected", x, 3, 1, 1);
        x.addRoute(0, 0, 2);
        dueErrors("rejected again", x, 3, 2, 1);
    }

    private static void invalidBeforeRejected() {
        SignallingPoint x = simplePoint(1);
        due("addRoute", x.addRoute(0, 0, 3), INVALID);
        due("addRoute below", x.addRoute(0, 0, -1), INVALID);
        due("setRouteState", x.setRouteState(1, 0, 3), INVALID);
        due("setRouteState below", x.setRouteState(1, 0, -1), INVALID);
        due("removeRoute", x.removeRoute(0, 1), INVALID);
        due("failLink", x.failLink(0, 1), INVALID);
        due("restoreLink", x.restoreLink(0, 1), INVALID);
        dueErrors("all of them", x, 7, 0, 0);
    }

    private static void invalidBeforeFull() {
        SignallingPoint x = pointWith(1, 1, 1, 1);
        due("no link", x.addLinkset(0), INVALID);
        due("five links", x.addLinkset(5), INVALID);
        due("one link", x.addLinkset(1), FULL);
        due("four links", x.addLinkset(4), FULL);
        dueErrors("all of them", x, 2, 0, 2);
    }

    private static void errorsBeforeNone() {
        SignallingPoint x = simplePoint(1);
        due("no such link, and far behind its queue", x.queued(0, 1, 99), INVALID);
        due("no such linkset, and far behind its queue", x.queued(1, 0, 99), INVALID);
        due("a negative place in an empty queue", x.queued(0, 0, -1), INVALID);
        due("no such linkset, so no route over it", x.routeState(1, 1), INVALID);
        due("no such destination, so no route to it", x.routeState(6, 0), INVALID);
        due("no such selector where there is no link", x.currentLink(1, 16), INVALID);
        dueErrors("all of them", x, 6, 0, 0);
        due("an empty queue", x.queued(0, 0, 0), NONE);
        due("no route", x.routeState(1, 0), NONE);
        due("no link", x.currentLink(1, 15), NONE);
        dueErrors("NONE is no error", x, 6, 0, 0);
    }
}
