/**
 * One test for each boundary that the terms name: of the list of messages, of what each message does
 * (under promise 4, which lets it arrive) and of the tick (promise 7).
 */
public final class TermsBoundaryTest {
    private static final int UPDATE = 3;
    private static final int ACK = 4;

    public static void main(String[] args) throws Exception {
        Checks.runAll(TermsBoundaryTest.class, false);
    }

    private static void due(String what, long want, long got) {
        Checks.due(what, want, got);
    }

    private static void dueList(String want, ChainKeeper x) {
        Checks.due("the messages", want, Checks.list(x));
    }

    /** Writes one after another, each answered, whose ACKs to the head are lost, so that they stay pending there. */
    private static void pendingAtTheHead(ChainKeeper x, int client, int howMany) {
        for (int k = 0; k < howMany; k++) {
            x.write(client, k % 4, 100 + k);
            Checks.deliverAllBut(x, ACK, x.chain(0));
        }
    }

    /** Delivers a message that must do nothing at all: it only leaves the list. */
    private static void doesNothing(String what, ChainKeeper x, int message) {
        String before = Checks.shown(x);
        Checks.deliverShown(x, message);
        String text = String.valueOf(message);
        String list = before.substring(0, before.indexOf(" chain"));
        int at = (" " + list + " ").indexOf(" " + text + " ");
        String rest = at < 0 ? list : (list + " ").substring(0, at) + (list + " ").substring(at + text.length() + 1);
        Checks.due("what is shown after " + what, rest.trim() + before.substring(before.indexOf(" chain")),
            Checks.shown(x));
    }

    // The list of messages

    static void promise04_list_secondThingSentIntoAFullListIsLost() {
        ChainKeeper x = new ChainKeeper(2, 5);
        x.write(0, 0, 1);
        x.deliver(0);
        Checks.filled(x, 60);
        x.deliver(0);
        due("messages()", 60, x.messages());
        due("the REPLY has room", 7000001, x.message(59));
        Checks.deliverAllBut(x, 2, 5);
        due("its ACK was lost", 0, x.node(0, 3));
    }

    static void promise04_list_lostUpdateStaysPending() {
        ChainKeeper x = new ChainKeeper(2, 5);
        x.write(0, 0, 1);
        x.write(1, 0, 2);
        x.join(5);
        Checks.filled(x, 60);
        Checks.deliverFirst(x, 2);
        x.duplicate(0);
        due("messages()", 60, x.messages());
        Checks.deliverShown(x, 8000002);
        due("one of two pending updates has room", 60, x.messages());
        due("message(59)", 3100001, x.message(59));
        due("both are pending", 2, x.node(0, 4));
    }

    static void promise04_list_orderIsThatOfSending() {
        ChainKeeper x = new ChainKeeper(3, 5);
        x.read(1, 0, 2);
        x.write(0, 0, 1);
        x.read(2, 0, 1);
        dueList("2200001 1000001 2100001", x);
        x.deliver(1);
        dueList("2200001 2100001 3100001", x);
        x.duplicate(0);
        dueList("2200001 2100001 3100001 2200001", x);
    }

    // Messages to nodes that are not up

    static void promise04_lost_everyKindToACrashedNode() {
        ChainKeeper x = new ChainKeeper(2, 20);
        x.write(0, 0, 1);
        x.crash(0);
        doesNothing("a WRITE to a crashed node", x, 1000001);
        x.read(1, 0, 0);
        doesNothing("a READ to a crashed node", x, 2000001);
        x.join(4);
        doesNothing("a CONFIG to a crashed node", x, 8000002);
        ChainKeeper y = new ChainKeeper(2, 20);
        y.write(0, 0, 1);
        y.deliver(0);
        y.read(1, 0, 0);
        y.deliver(1);
        y.duplicate(0);
        y.duplicate(1);
        y.deliver(1);
        y.deliver(0);
        y.crash(0);
        doesNothing("an ANSWER to a crashed node", y, 6000001);
        doesNothing("an ACK to a crashed node", y, 4000001);
        y.crash(1);
        doesNothing("an UPDATE to a crashed node", y, 3100001);
        doesNothing("a QUERY to a crashed node", y, 5100001);
        dueList("7000001", y);
        due("deliver of the REPLY", 1, Checks.asNumber(y.deliver(0)));
        due("a REPLY comes from a crashed node too", 0, y.client(0, 1));
    }

    static void promise04_lost_copyToACrashedNode() {
        ChainKeeper x = new ChainKeeper(1, 20);
        x.join(5);
        Checks.deliverFirst(x, 2);
        x.crash(5);
        doesNothing("a COPY to a crashed node", x, 9500000);
        due("node(5, 0)", 0, x.node(5, 0));
    }

    static void promise04_lost_messageStaysUnderWayUntilItArrives() {
        ChainKeeper x = new ChainKeeper(2, 20);
        x.crash(1);
        x.read(0, 0, 1);
        due("messages()", 1, x.messages());
        due("message(0)", 2100001, x.message(0));
        due("deliver(0)", 1, Checks.asNumber(x.deliver(0)));
        due("messages()", 0, x.messages());
    }

    // Epochs

    /** The chain 0, 1, 2 of which 1 crashed, so that 0 and 2 are sent an epoch 2. */
    private static ChainKeeper withoutTheMiddle() {
        ChainKeeper x = new ChainKeeper(3, 20);
        x.crash(1);
        x.detect(1);
        return x;
    }

    static void promise04_epoch_olderUpdateIsNotTaken() {
        ChainKeeper x = new ChainKeeper(2, 20);
        x.write(0, 0, 1);
        x.deliver(0);
        x.join(2);
        Checks.deliverShown(x, 8100002);
        doesNothing("an UPDATE of the epoch before", x, 3100001);
    }

    static void promise04_epoch_newerUpdateIsNotTaken() {
        ChainKeeper x = new ChainKeeper(2, 20);
        x.join(2);
        Checks.deliverShown(x, 8000002);
        x.write(0, 0, 1);
        Checks.deliverShown(x, 1000001);
        doesNothing("an UPDATE of the epoch after", x, 3100001);
    }

    static void promise04_epoch_olderAckIsNotTaken() {
        ChainKeeper x = new ChainKeeper(2, 20);
        x.write(0, 0, 1);
        Checks.deliverFirst(x, 2);
        x.join(2);
        Checks.deliverShown(x, 8000002);
        doesNothing("an ACK of the epoch before", x, 4000001);
        due("pending", 1, x.node(0, 4));
    }

    static void promise04_epoch_newerAckIsNotTaken() {
        ChainKeeper x = new ChainKeeper(3, 20);
        x.write(0, 0, 1);
        Checks.deliverFirst(x, 2);
        Checks.dropAll(x);
        x.crash(2);
        x.detect(2);
        Checks.deliverShown(x, 8100002);
        doesNothing("an ACK of the epoch after", x, 4000001);
        due("pending", 1, x.node(0, 4));
    }

    static void promise04_epoch_olderAckDoesNotEndHandingOver() {
        ChainKeeper x = new ChainKeeper(1, 20);
        x.join(1);
        Checks.deliverFirst(x, 3);
        dueList("4000000", x);
        x.join(2);
        Checks.deliverShown(x, 8000003);
        due("it hands over", 1, x.node(0, 5));
        doesNothing("an ACK of the epoch before", x, 4000000);
        due("it hands over still", 1, x.node(0, 5));
    }

    static void promise04_epoch_olderQueryIsNotTaken() {
        ChainKeeper x = new ChainKeeper(3, 20);
        x.write(0, 0, 1);
        x.deliver(0);
        Checks.dropAll(x);
        x.read(1, 0, 0);
        x.deliver(0);
        x.crash(1);
        x.detect(1);
        Checks.deliverShown(x, 8200002);
        doesNothing("a QUERY of the epoch before", x, 5200001);
    }

    static void promise04_epoch_newerQueryIsNotTaken() {
        ChainKeeper x = new ChainKeeper(3, 20);
        x.write(0, 0, 1);
        x.deliver(0);
        Checks.dropAll(x);
        x.crash(1);
        x.detect(1);
        Checks.deliverShown(x, 8000002);
        x.read(1, 0, 0);
        Checks.deliverShown(x, 2000001);
        doesNothing("a QUERY of the epoch after", x, 5200001);
    }

    static void promise04_epoch_olderAnswerIsNotTaken() {
        ChainKeeper x = new ChainKeeper(3, 20);
        x.write(0, 0, 1);
        x.deliver(0);
        Checks.dropAll(x);
        x.read(1, 0, 0);
        Checks.deliverFirst(x, 2);
        x.crash(1);
        x.detect(1);
        Checks.deliverShown(x, 8000002);
        doesNothing("an ANSWER of the epoch before", x, 6000001);
    }

    static void promise04_epoch_answerBearsTheTailsEpoch() {
        ChainKeeper x = new ChainKeeper(3, 20);
        x.write(0, 0, 1);
        x.deliver(0);
        Checks.dropAll(x);
        x.crash(1);
        x.detect(1);
        Checks.deliverFirst(x, 2);
        x.read(1, 0, 0);
        Checks.deliverShown(x, 2000001);
        Checks.deliverShown(x, 5200001);
        Checks.deliverShown(x, 6000001);
        Checks.deliverShown(x, 7100001);
        due("client(1, 1)", 0, x.client(1, 1));
    }

    static void promise04_epoch_olderCopyIsNotTaken() {
        ChainKeeper x = new ChainKeeper(1, 20);
        x.join(1);
        Checks.deliverFirst(x, 2);
        x.join(2);
        Checks.deliverShown(x, 8100003);
        doesNothing("a COPY of the epoch before", x, 9100000);
        due("it is not ready", 1, x.node(1, 0));
    }

    static void promise04_epoch_newerCopyIsNotTaken() {
        ChainKeeper x = new ChainKeeper(1, 20);
        x.join(1);
        x.deliver(0);
        doesNothing("a COPY of the epoch after", x, 9100000);
        due("it is not ready", 1, x.node(1, 0));
    }

    static void promise04_epoch_olderCopyAtAReadyNodeIsNotAcknowledged() {
        ChainKeeper x = withoutTheMiddle();
        Checks.deliverShown(x, 8000002);
        doesNothing("a COPY of the epoch after, at a ready node", x, 9200000);
    }

    static void promise04_epoch_doubleBearsTheSameEpoch() {
        ChainKeeper x = new ChainKeeper(2, 20);
        x.write(0, 0, 1);
        x.deliver(0);
        x.join(2);
        Checks.deliverShown(x, 8100002);
        x.duplicate(0);
        x.drop(0);
        doesNothing("the double of an UPDATE of the epoch before", x, 3100001);
    }

    // Nodes that are not ready

    /** The chain 0, 1, 2, all of epoch 2; 2 is not ready, as the COPY to it was lost. */
    private static ChainKeeper withTailNotReady() {
        ChainKeeper x = new ChainKeeper(2, 20);
        x.join(2);
        Checks.deliverFirst(x, 3);
        Checks.dropAll(x);
        due("the tail is not ready", 1, x.node(2, 0));
        due("its epoch", 2, x.node(2, 1));
        return x;
    }

    static void promise04_notReady_updateIsNotTaken() {
        ChainKeeper x = withTailNotReady();
        x.write(0, 0, 1);
        Checks.deliverFirst(x, 2);
        doesNothing("an UPDATE at a node that is not ready", x, 3200001);
    }

    static void promise04_notReady_queryIsNotTaken() {
        ChainKeeper x = withTailNotReady();
        x.write(0, 0, 1);
        x.deliver(0);
        x.read(1, 0, 0);
        Checks.deliverShown(x, 2000001);
        doesNothing("a QUERY at a tail that is not ready", x, 5200001);
    }

    static void promise04_notReady_readIsNotTaken() {
        ChainKeeper x = withTailNotReady();
        x.read(0, 0, 2);
        doesNothing("a READ at a node of the chain that is not ready", x, 2200001);
        x.read(1, 0, 5);
        doesNothing("a READ at a node that never came in", x, 2500001);
    }

    static void promise04_notReady_writeAtTheHeadIsNotTaken() {
        ChainKeeper x = new ChainKeeper(1, 20);
        x.join(1);
        x.crash(0);
        x.detect(0);
        Checks.deliverAll(x);
        due("the only node is not ready", 1, x.node(1, 0));
        due("its epoch", 3, x.node(1, 1));
        x.write(0, 0, 1);
        doesNothing("a WRITE at a head that is not ready", x, 1100001);
    }

    static void promise04_notReady_configIsKnownAndNoMore() {
        ChainKeeper x = new ChainKeeper(1, 20);
        x.join(1);
        x.join(2);
        Checks.deliverShown(x, 8100003);
        due("its epoch", 3, x.node(1, 1));
        due("it does not hand over", 0, x.node(1, 5));
        dueList("8000002 8100002 8000003 8200003", x);
    }

    static void promise04_notReady_copyIsTaken() {
        ChainKeeper x = withTailNotReady();
        x.tick(3);
        dueList("9200000", x);
        x.deliver(0);
        due("it is ready", 3, x.node(2, 0));
        dueList("4100000", x);
    }

    // WRITE

    static void promise04_write_atANodeThatIsNotTheHead() {
        ChainKeeper x = new ChainKeeper(2, 20);
        x.crash(0);
        x.detect(0);
        x.write(0, 0, 1);
        doesNothing("a WRITE at one that does not know that it is the head", x, 1100001);
    }

    static void promise04_write_doneGetsAReply() {
        ChainKeeper x = new ChainKeeper(2, 20);
        x.write(2, 0, 1);
        x.duplicate(0);
        x.deliver(0);
        x.deliver(1);
        Checks.deliverShown(x, 4000001);
        Checks.deliverShown(x, 1000001);
        dueList("7200001 7200001", x);
        due("it is not applied again", 1, x.node(0, 2));
        x.drop(0);
        x.deliver(0);
        due("this REPLY ends the request", 0, x.client(2, 1));
    }

    static void promise04_write_beforeDoneGetsNothing() {
        ChainKeeper x = new ChainKeeper(1, 20);
        x.write(0, 0, 1);
        x.duplicate(0);
        Checks.deliverShown(x, 1000001);
        Checks.deliverShown(x, 7000001);
        x.write(0, 0, 2);
        Checks.deliverShown(x, 1000002);
        Checks.deliverShown(x, 7000002);
        doesNothing("a WRITE one before DONE", x, 1000001);
    }

    static void promise04_write_inTableAloneGetsNothing() {
        ChainKeeper x = new ChainKeeper(2, 20);
        x.write(0, 0, 1);
        x.duplicate(0);
        x.deliver(0);
        doesNothing("a WRITE that is pending", x, 1000001);
    }

    static void promise04_write_beforeTableGetsNothing() {
        ChainKeeper x = new ChainKeeper(2, 20);
        x.write(0, 0, 1);
        x.duplicate(0);
        x.deliver(0);
        x.deliver(1);
        Checks.deliverShown(x, 7000001);
        x.write(0, 0, 2);
        Checks.deliverShown(x, 1000002);
        due("two are pending", 2, x.node(0, 4));
        doesNothing("a WRITE between DONE and TABLE", x, 1000001);
    }

    static void promise04_write_moreThanTableIsApplied() {
        ChainKeeper x = new ChainKeeper(2, 20);
        pendingAtTheHead(x, 0, 1);
        x.write(0, 3, 7);
        x.deliver(0);
        due("LAST", 2, x.node(0, 2));
        dueList("3100002", x);
    }

    static void promise04_write_tableAndDoneAreEachClientsOwn() {
        ChainKeeper x = new ChainKeeper(1, 20);
        Checks.writeThrough(x, 0, 0, 1);
        Checks.writeThrough(x, 0, 0, 2);
        Checks.writeThrough(x, 2, 0, 3);
        due("LAST", 3, x.node(0, 2));
        due("client(2, 1)", 0, x.client(2, 1));
        due("value(0, 0)", 3, x.value(0, 0));
    }

    static void promise04_write_withSevenPendingIsApplied() {
        ChainKeeper x = new ChainKeeper(2, 20);
        pendingAtTheHead(x, 0, 7);
        x.write(1, 0, 9);
        x.deliver(0);
        due("pending", 8, x.node(0, 4));
        due("LAST", 8, x.node(0, 2));
        dueList("3100008", x);
    }

    static void promise04_write_withEightPendingGetsNothing() {
        ChainKeeper x = new ChainKeeper(2, 20);
        pendingAtTheHead(x, 0, 8);
        x.write(1, 0, 9);
        doesNothing("a WRITE with 8 pending", x, 1000001);
        due("pending", 8, x.node(0, 4));
        due("LAST", 8, x.node(0, 2));
    }

    static void promise04_write_withEightPendingIsNotInTable() {
        ChainKeeper x = new ChainKeeper(2, 2);
        pendingAtTheHead(x, 0, 8);
        x.write(1, 0, 9);
        x.deliver(0);
        x.tick(3);
        Checks.deliverAll(x);
        due("the pending ones are done", 0, x.node(0, 4));
        x.tick(2);
        Checks.deliverAll(x);
        due("then it is applied", 9, x.value(0, 0));
        due("client(1, 1)", 0, x.client(1, 1));
    }

    static void promise04_write_doneWithEightPendingGetsAReply() {
        ChainKeeper x = new ChainKeeper(2, 20);
        x.write(2, 0, 1);
        x.duplicate(0);
        x.deliver(0);
        x.deliver(1);
        Checks.deliverShown(x, 4000001);
        x.drop(1);
        for (int k = 0; k < 8; k++) {
            x.write(0, k % 4, 100 + k);
            x.deliver(1);
            x.deliver(1);
            x.deliver(1);
            x.drop(1);
        }
        due("pending", 8, x.node(0, 4));
        x.deliver(0);
        dueList("7200001", x);
    }

    static void promise04_write_pendingRowsGoRoundPastEight() {
        ChainKeeper x = new ChainKeeper(2, 20);
        pendingAtTheHead(x, 0, 5);
        x.tick(3);
        Checks.deliverAll(x);
        due("pending", 0, x.node(0, 4));
        pendingAtTheHead(x, 1, 8);
        due("LAST", 13, x.node(0, 2));
        due("pending", 8, x.node(0, 4));
        x.tick(3);
        dueList("3100006 3100007 3100008 3100009 3100010 3100011 3100012 3100013", x);
        Checks.deliverAll(x);
        due("value(0, 0)", 104, x.value(0, 0));
        due("value(0, 3)", 107, x.value(0, 3));
        due("clean(0, 0)", 10, x.clean(0, 0));
        due("clean(0, 3)", 13, x.clean(0, 3));
    }

    static void promise04_write_atAHeadThatIsAlsoTheTail() {
        ChainKeeper x = new ChainKeeper(1, 20);
        x.write(0, 0, 1);
        x.deliver(0);
        dueList("7000001", x);
        due("pending", 0, x.node(0, 4));
        due("ACKED", 1, x.node(0, 3));
        due("value(0, 0)", 1, x.value(0, 0));
    }

    // UPDATE

    /** Updates 1, 2, 3 are pending at the head of 0, 1; each UPDATE is under way once. */
    private static ChainKeeper threeUpdates(int nodes) {
        ChainKeeper x = new ChainKeeper(nodes, 20);
        for (int c = 0; c < 3; c++) {
            x.write(c, c, 10 + c);
            x.deliver(c);
        }
        dueList("3100001 3100002 3100003", x);
        return x;
    }

    static void promise04_update_nextIsApplied() {
        ChainKeeper x = threeUpdates(3);
        x.deliver(0);
        due("LAST", 1, x.node(1, 2));
        due("pending", 1, x.node(1, 4));
        dueList("3100002 3100003 3200001", x);
    }

    static void promise04_update_oneAfterTheNextDoesNothing() {
        ChainKeeper x = threeUpdates(2);
        doesNothing("UPDATE 2 when LAST is 0", x, 3100002);
        doesNothing("UPDATE 3 when LAST is 0", x, 3100003);
        due("LAST", 0, x.node(1, 2));
    }

    static void promise04_update_pendingOneDoesNothing() {
        ChainKeeper x = threeUpdates(3);
        x.duplicate(0);
        x.duplicate(1);
        x.deliver(0);
        x.deliver(0);
        due("LAST", 2, x.node(1, 2));
        doesNothing("UPDATE 1 that is pending", x, 3100001);
        doesNothing("UPDATE 2 that is pending, and LAST", x, 3100002);
    }

    static void promise04_update_ofAckedIsAcknowledged() {
        ChainKeeper x = threeUpdates(2);
        x.duplicate(0);
        x.deliver(0);
        Checks.deliverShown(x, 4000001);
        Checks.deliverShown(x, 7000001);
        Checks.deliverShown(x, 3100001);
        dueList("3100002 3100003 4000001", x);
        due("LAST", 1, x.node(1, 2));
    }

    static void promise04_update_beforeAckedIsAcknowledgedWithAcked() {
        ChainKeeper x = threeUpdates(2);
        x.duplicate(0);
        Checks.deliverFirst(x, 3);
        due("ACKED", 3, x.node(1, 3));
        Checks.keepOnly(x, 3100001);
        x.deliver(0);
        dueList("4000003", x);
    }

    static void promise04_update_ofAckedInTheMiddleIsAcknowledgedToThePredecessor() {
        ChainKeeper x = new ChainKeeper(3, 20);
        x.write(0, 0, 1);
        x.deliver(0);
        x.duplicate(0);
        x.deliver(0);
        Checks.deliverShown(x, 3200001);
        Checks.deliverShown(x, 4100001);
        Checks.deliverShown(x, 4000001);
        Checks.deliverShown(x, 7000001);
        dueList("3100001", x);
        x.deliver(0);
        dueList("4000001", x);
    }

    static void promise04_update_allEightInTheMiddle() {
        ChainKeeper x = new ChainKeeper(3, 20);
        for (int k = 0; k < 8; k++) {
            x.write(0, k % 4, 100 + k);
            Checks.deliverAllBut(x, ACK, 1);
        }
        due("pending in the middle", 8, x.node(1, 4));
        due("pending at the head", 8, x.node(0, 4));
        due("all at the tail", 8, x.node(2, 3));
        x.tick(3);
        Checks.deliverAll(x);
        due("ACKED in the middle", 8, x.node(1, 3));
        due("ACKED at the head", 8, x.node(0, 3));
    }

    // ACK

    /** Updates 1, 2, 3 are at all nodes of 0, 1, 2; of the tail's three ACKs that of a number is under way. */
    private static ChainKeeper withAckTo1(int number) {
        ChainKeeper x = threeUpdates(3);
        Checks.deliverFirst(x, 6);
        Checks.keepOnly(x, 4100000 + number);
        due("messages()", 1, x.messages());
        return x;
    }

    static void promise04_ack_ofPartCommitsPart() {
        ChainKeeper x = withAckTo1(2);
        x.deliver(0);
        due("ACKED", 2, x.node(1, 3));
        due("pending", 1, x.node(1, 4));
        due("clean(1, 0)", 1, x.clean(1, 0));
        due("clean(1, 1)", 2, x.clean(1, 1));
        due("clean(1, 2)", 0, x.clean(1, 2));
        dueList("4000002", x);
    }

    static void promise04_ack_ofLastCommitsAll() {
        ChainKeeper x = withAckTo1(3);
        x.deliver(0);
        due("ACKED", 3, x.node(1, 3));
        due("pending", 0, x.node(1, 4));
        due("clean(1, 2)", 3, x.clean(1, 2));
        dueList("4000003", x);
    }

    static void promise04_ack_ofTheFirstCommitsOne() {
        ChainKeeper x = withAckTo1(1);
        x.deliver(0);
        due("ACKED", 1, x.node(1, 3));
        due("pending", 2, x.node(1, 4));
        dueList("4000001", x);
    }

    static void promise04_ack_ofAckedDoesNothing() {
        ChainKeeper x = withAckTo1(2);
        x.duplicate(0);
        x.deliver(0);
        doesNothing("an ACK of ACKED", x, 4100002);
    }

    static void promise04_ack_beforeAckedDoesNothing() {
        ChainKeeper x = threeUpdates(2);
        Checks.deliverFirst(x, 3);
        Checks.deliverShown(x, 4000003);
        due("ACKED", 3, x.node(0, 3));
        doesNothing("an ACK of 1", x, 4000001);
        doesNothing("an ACK of 2", x, 4000002);
    }

    static void promise04_ack_atTheHeadGoesNoFurther() {
        ChainKeeper x = new ChainKeeper(2, 20);
        x.write(0, 0, 1);
        Checks.deliverFirst(x, 2);
        x.drop(0);
        dueList("4000001", x);
        x.deliver(0);
        dueList("", x);
        due("ACKED", 1, x.node(0, 3));
    }

    static void promise04_ack_ofAckedEndsHandingOver() {
        ChainKeeper x = new ChainKeeper(1, 20);
        x.join(1);
        Checks.deliverFirst(x, 3);
        due("it hands over", 1, x.node(0, 5));
        dueList("4000000", x);
        x.deliver(0);
        due("it hands over no more", 0, x.node(0, 5));
    }

    static void promise04_ack_ofAckedThatIsNotZeroEndsHandingOver() {
        ChainKeeper x = new ChainKeeper(3, 20);
        Checks.writeThrough(x, 0, 0, 1);
        x.crash(1);
        x.detect(1);
        Checks.deliverFirst(x, 3);
        due("it hands over", 1, x.node(0, 5));
        dueList("4000001", x);
        x.deliver(0);
        due("it hands over no more", 0, x.node(0, 5));
        due("ACKED", 1, x.node(0, 3));
        due("messages()", 0, x.messages());
    }

    static void promise04_ack_ofMoreThanAckedEndsHandingOverToo() {
        ChainKeeper x = new ChainKeeper(3, 20);
        x.write(0, 0, 1);
        x.deliver(0);
        Checks.dropAll(x);
        x.crash(1);
        x.detect(1);
        Checks.deliverFirst(x, 2);
        dueList("9200001 3200001", x);
        x.drop(0);
        x.deliver(0);
        dueList("7000001 4000001", x);
        x.deliver(1);
        due("ACKED", 1, x.node(0, 3));
        due("it hands over no more", 0, x.node(0, 5));
    }

    // READ, QUERY, ANSWER

    static void promise04_read_ofAKeyThatWasNeverWritten() {
        ChainKeeper x = new ChainKeeper(1, 20);
        Checks.writeThrough(x, 0, 1, 5);
        x.read(0, 1, 0);
        Checks.deliverAll(x);
        due("VERSION", 1, x.client(0, 2));
        x.read(0, 0, 0);
        Checks.deliverAll(x);
        due("VERSION", 0, x.client(0, 2));
        due("VALUE", 0, x.client(0, 3));
    }

    static void promise04_read_dirtyKeyAloneIsAskedFor() {
        for (int key = 0; key < 4; key++) {
            ChainKeeper x = new ChainKeeper(3, 20);
            pendingAtTheHead(x, 0, 2);
            x.read(1, key, 0);
            x.deliver(0);
            due("at key " + key, key < 2 ? 5200001 : 7100001, x.message(0));
            Checks.deliverAll(x);
            due("VERSION", key < 2 ? key + 1 : 0, x.client(1, 2));
        }
    }

    static void promise04_read_dirtyByTheFirstAndTheLastOfEight() {
        ChainKeeper x = new ChainKeeper(2, 20);
        x.write(0, 3, 1);
        Checks.deliverAllBut(x, ACK, 0);
        for (int k = 0; k < 6; k++) {
            x.write(0, 1, 10 + k);
            Checks.deliverAllBut(x, ACK, 0);
        }
        x.write(0, 2, 2);
        Checks.deliverAllBut(x, ACK, 0);
        due("pending", 8, x.node(0, 4));
        x.read(0, 3, 0);
        x.read(1, 2, 0);
        x.read(2, 0, 0);
        Checks.deliverFirst(x, 3);
        dueList("5100009 5100001 7200001", x);
    }

    static void promise04_read_atTheTailIsNeverDirty() {
        ChainKeeper x = new ChainKeeper(2, 20);
        pendingAtTheHead(x, 0, 1);
        x.read(1, 0, 1);
        x.deliver(0);
        dueList("7100001", x);
        x.deliver(0);
        due("VALUE", 100, x.client(1, 3));
    }

    /** Node 0 of 0, 1 has updates 1 and 2 of key 0 pending; the tail has the first tailHas of them. */
    private static ChainKeeper askingAnswer(int tailHas) {
        ChainKeeper x = new ChainKeeper(2, 20);
        x.write(0, 0, 51);
        x.write(1, 0, 52);
        Checks.deliverFirst(x, 2);
        for (int k = 0; k < tailHas; k++) {
            x.deliver(0);
        }
        x.read(2, 0, 0);
        Checks.deliverShown(x, 2000001);
        Checks.deliverShown(x, 5100001);
        return x;
    }

    static void promise04_answer_ofZeroIsTheCleanVersion() {
        ChainKeeper x = askingAnswer(0);
        Checks.deliverShown(x, 6000001);
        Checks.deliverShown(x, 7200001);
        due("client(2, 1)", 0, x.client(2, 1));
        due("VERSION", 0, x.client(2, 2));
        due("VALUE", 0, x.client(2, 3));
    }

    static void promise04_answer_ofAPendingNumberIsThatOne() {
        ChainKeeper x = askingAnswer(1);
        Checks.deliverShown(x, 6000001);
        Checks.deliverShown(x, 7200001);
        due("VERSION is not that of the last pending one", 1, x.client(2, 2));
        due("VALUE", 51, x.client(2, 3));
    }

    static void promise04_answer_ofTheLastPendingNumber() {
        ChainKeeper x = askingAnswer(2);
        Checks.deliverShown(x, 6000001);
        Checks.deliverShown(x, 7200001);
        due("VERSION is not that of the first pending one", 2, x.client(2, 2));
        due("VALUE", 52, x.client(2, 3));
    }

    static void promise04_answer_ofTheCleanNumber() {
        ChainKeeper x = askingAnswer(1);
        Checks.deliverShown(x, 4000001);
        due("clean(0, 0)", 1, x.clean(0, 0));
        Checks.deliverShown(x, 6000001);
        Checks.deliverShown(x, 7200001);
        due("VERSION", 1, x.client(2, 2));
        due("VALUE", 51, x.client(2, 3));
    }

    static void promise04_answer_ofLessThanTheCleanNumber() {
        ChainKeeper x = askingAnswer(1);
        Checks.deliverShown(x, 3100002);
        Checks.deliverShown(x, 4000002);
        due("clean(0, 0)", 2, x.clean(0, 0));
        Checks.deliverShown(x, 6000001);
        Checks.deliverShown(x, 7200001);
        due("VERSION is the newer one", 2, x.client(2, 2));
        due("VALUE", 52, x.client(2, 3));
    }

    static void promise04_query_goesToTheTailAndItsAnswerToTheOneThatAsked() {
        ChainKeeper x = new ChainKeeper(4, 20);
        x.write(0, 3, 9);
        Checks.deliverFirst(x, 3);
        x.drop(0);
        x.read(1, 3, 1);
        x.deliver(0);
        due("a QUERY to the tail", 5300001, x.message(0));
        x.deliver(0);
        due("an ANSWER to node 1", 6100001, x.message(0));
    }

    static void promise04_answer_eachGoesToItsOwnRead() {
        ChainKeeper x = new ChainKeeper(2, 20);
        x.write(0, 1, 51);
        x.write(1, 2, 52);
        Checks.deliverFirst(x, 4);
        Checks.deliverShown(x, 7000001);
        Checks.deliverShown(x, 7100001);
        x.read(2, 1, 0);
        x.read(1, 2, 0);
        Checks.deliverShown(x, 2000001);
        Checks.deliverShown(x, 2000002);
        dueList("4000001 4000002 5100001 5100002", x);
        x.deliver(3);
        x.deliver(2);
        dueList("4000001 4000002 6000002 6000001", x);
        x.deliver(3);
        x.deliver(2);
        dueList("4000001 4000002 7200001 7100002", x);
        x.deliver(3);
        x.deliver(2);
        due("VALUE of key 1", 51, x.client(2, 3));
        due("VALUE of key 2", 52, x.client(1, 3));
    }

    // CONFIG

    static void promise04_config_sameEpochDoesNothing() {
        ChainKeeper x = new ChainKeeper(2, 20);
        pendingAtTheHead(x, 0, 1);
        x.join(2);
        x.duplicate(0);
        x.deliver(0);
        dueList("8100002 8200002 8000002 3100001", x);
        doesNothing("a CONFIG of the node's epoch", x, 8000002);
    }

    static void promise04_config_olderEpochDoesNothing() {
        ChainKeeper x = new ChainKeeper(2, 20);
        pendingAtTheHead(x, 0, 1);
        x.join(2);
        x.join(3);
        Checks.deliverShown(x, 8000003);
        doesNothing("a CONFIG of an epoch before the node's", x, 8000002);
        due("epoch", 3, x.node(0, 1));
    }

    static void promise04_config_skipsAnEpoch() {
        ChainKeeper x = new ChainKeeper(1, 20);
        x.join(1);
        x.join(2);
        Checks.deliverShown(x, 8000003);
        due("epoch", 3, x.node(0, 1));
        due("it hands over to its successor in the new chain", 9100000, x.message(x.messages() - 1));
    }

    static void promise04_config_tailWithNothingPendingSendsNothing() {
        ChainKeeper x = new ChainKeeper(3, 20);
        Checks.writeThrough(x, 0, 0, 1);
        x.crash(0);
        x.detect(0);
        Checks.deliverShown(x, 8200002);
        dueList("8100002", x);
        due("epoch", 2, x.node(2, 1));
    }

    static void promise04_config_newTailCommitsAllItsPending() {
        ChainKeeper x = threeUpdates(3);
        Checks.deliverFirst(x, 3);
        Checks.dropAll(x);
        x.crash(2);
        x.detect(2);
        Checks.deliverShown(x, 8100002);
        dueList("8000002 7000001 7100001 7200001 4000003", x);
        due("ACKED", 3, x.node(1, 3));
        due("pending", 0, x.node(1, 4));
    }

    static void promise04_config_newTailWithoutPredecessorSendsNoAck() {
        ChainKeeper x = new ChainKeeper(2, 20);
        x.write(0, 0, 1);
        x.deliver(0);
        Checks.dropAll(x);
        x.crash(1);
        x.detect(1);
        x.deliver(0);
        dueList("7000001", x);
        due("ACKED", 1, x.node(0, 3));
    }

    static void promise04_config_sameSuccessorIsSentPendingAlone() {
        ChainKeeper x = threeUpdates(3);
        Checks.dropAll(x);
        x.crash(2);
        x.detect(2);
        Checks.deliverShown(x, 8000002);
        dueList("8100002 3100001 3100002 3100003", x);
        due("it does not hand over", 0, x.node(0, 5));
    }

    static void promise04_config_sameSuccessorAndNothingPending() {
        ChainKeeper x = new ChainKeeper(3, 20);
        x.crash(2);
        x.detect(2);
        Checks.deliverShown(x, 8000002);
        dueList("8100002", x);
        due("it does not hand over", 0, x.node(0, 5));
    }

    static void promise04_config_otherSuccessorIsSentACopyFirst() {
        ChainKeeper x = threeUpdates(3);
        Checks.dropAll(x);
        x.crash(1);
        x.detect(1);
        Checks.deliverShown(x, 8000002);
        dueList("8200002 9200003 3200001 3200002 3200003", x);
        due("it hands over", 1, x.node(0, 5));
    }

    static void promise04_config_otherSuccessorAndNothingPending() {
        ChainKeeper x = withoutTheMiddle();
        Checks.deliverShown(x, 8000002);
        dueList("8200002 9200000", x);
        due("it hands over", 1, x.node(0, 5));
    }

    static void promise04_config_oldTailHadNoSuccessor() {
        ChainKeeper x = new ChainKeeper(2, 20);
        Checks.writeThrough(x, 0, 0, 1);
        x.join(5);
        Checks.deliverShown(x, 8100002);
        dueList("8000002 8500002 9500001", x);
        due("it hands over", 1, x.node(1, 5));
        Checks.deliverShown(x, 8000002);
        due("the head's successor is the same", 0, x.node(0, 5));
        dueList("8500002 9500001", x);
    }

    static void promise04_config_handingOverGoesOnWithTheSameSuccessor() {
        ChainKeeper x = new ChainKeeper(1, 20);
        x.join(1);
        x.deliver(0);
        x.join(2);
        Checks.deliverShown(x, 8000003);
        due("it hands over still", 1, x.node(0, 5));
        dueList("8100002 9100000 8100003 8200003", x);
    }

    static void promise04_config_eightPendingAreAllSent() {
        ChainKeeper x = new ChainKeeper(2, 20);
        pendingAtTheHead(x, 0, 8);
        x.join(2);
        x.deliver(0);
        dueList("8100002 8200002 3100001 3100002 3100003 3100004 3100005 3100006 3100007 3100008", x);
    }

    // COPY

    static void promise04_copy_emptyNodeIsCopied() {
        ChainKeeper x = new ChainKeeper(1, 20);
        x.join(5);
        Checks.deliverFirst(x, 3);
        due("ready", 3, x.node(5, 0));
        due("LAST", 0, x.node(5, 2));
        due("ACKED", 0, x.node(5, 3));
        dueList("4000000", x);
    }

    static void promise04_copy_ofPendingUpdatesIsCleanThere() {
        ChainKeeper x = threeUpdates(3);
        Checks.deliverFirst(x, 3);
        Checks.dropAll(x);
        x.write(0, 0, 99);
        x.join(4);
        x.crash(2);
        x.detect(2);
        Checks.dropAll(x);
        Checks.deliverAllBut(x, UPDATE, 4);
        due("ready", 3, x.node(4, 0));
        due("LAST", 3, x.node(4, 2));
        due("ACKED", 3, x.node(4, 3));
        due("pending", 0, x.node(4, 4));
        for (int key = 0; key < 3; key++) {
            due("clean(4, " + key + ")", key + 1, x.clean(4, key));
            due("value(4, " + key + ")", 10 + key, x.value(4, key));
        }
        due("clean(4, 3)", 0, x.clean(4, 3));
    }

    static void promise04_copy_bearsTheLastPendingOfAKeyOrTheCleanOne() {
        ChainKeeper x = new ChainKeeper(3, 20);
        Checks.writeThrough(x, 0, 3, 33);
        for (int k = 0; k < 3; k++) {
            x.write(k, 0, 41 + k);
            x.deliver(k);
        }
        x.crash(1);
        x.join(5);
        x.detect(1);
        x.crash(2);
        x.detect(2);
        Checks.deliverAllBut(x, UPDATE, 5);
        due("ready", 3, x.node(5, 0));
        due("the last pending one", 4, x.clean(5, 0));
        due("the last pending one", 43, x.value(5, 0));
        due("the clean one", 1, x.clean(5, 3));
        due("the clean one", 33, x.value(5, 3));
    }

    static void promise04_copy_atAReadyNodeIsOnlyAcknowledged() {
        ChainKeeper x = new ChainKeeper(3, 20);
        x.write(0, 0, 1);
        x.deliver(0);
        Checks.dropAll(x);
        x.crash(1);
        x.detect(1);
        Checks.deliverFirst(x, 2);
        dueList("9200001 3200001", x);
        x.deliver(0);
        due("LAST", 0, x.node(2, 2));
        due("clean(2, 0)", 0, x.clean(2, 0));
        dueList("3200001 4000000", x);
    }

    static void promise04_copy_againIsAcknowledgedAgainAndGoesNoFurther() {
        ChainKeeper x = new ChainKeeper(1, 20);
        x.join(1);
        x.join(2);
        Checks.deliverShown(x, 8000003);
        Checks.deliverShown(x, 8100003);
        Checks.deliverShown(x, 8200003);
        Checks.deliverFirst(x, 2);
        x.duplicate(0);
        dueList("9100000 9100000", x);
        x.deliver(0);
        dueList("9100000 9200000 4000000", x);
        due("it hands over in turn", 1, x.node(1, 5));
        x.deliver(0);
        dueList("9200000 4000000 4000000", x);
    }

    static void promise04_copy_tailDoesNotHandOver() {
        ChainKeeper x = new ChainKeeper(1, 20);
        x.join(1);
        Checks.deliverFirst(x, 3);
        due("it does not hand over", 0, x.node(1, 5));
        dueList("4000000", x);
    }

    static void promise04_copy_tableIsBothTableAndDone() {
        ChainKeeper x = new ChainKeeper(1, 20);
        Checks.writeThrough(x, 1, 0, 4);
        x.write(1, 0, 5);
        x.deliver(0);
        x.drop(0);
        x.join(1);
        Checks.deliverAll(x);
        x.crash(0);
        x.detect(0);
        Checks.deliverAll(x);
        x.tick(20);
        dueList("1100002", x);
        x.deliver(0);
        dueList("7100002", x);
        due("it is not applied again", 2, x.node(1, 2));
    }

    static void promise04_copy_tableGoesOnToTheNextNode() {
        ChainKeeper x = new ChainKeeper(1, 20);
        x.write(1, 0, 5);
        x.deliver(0);
        x.drop(0);
        x.join(1);
        Checks.deliverAll(x);
        x.join(2);
        Checks.deliverAll(x);
        due("ready", 3, x.node(2, 0));
        x.crash(0);
        x.detect(0);
        x.crash(1);
        x.detect(1);
        Checks.deliverAll(x);
        x.tick(20);
        dueList("1200001", x);
        x.deliver(0);
        dueList("7100001", x);
        due("it is not applied again", 1, x.node(2, 2));
    }

    // REPLY

    static void promise04_reply_ofAnOlderRequestDoesNothing() {
        ChainKeeper x = new ChainKeeper(1, 20);
        Checks.writeThrough(x, 1, 0, 5);
        x.read(0, 0, 0);
        x.deliver(0);
        x.duplicate(0);
        x.deliver(0);
        x.read(0, 1, 0);
        doesNothing("a REPLY to the request before", x, 7000001);
        due("the new one is open still", 1, x.client(0, 1));
    }

    static void promise04_reply_whenNothingIsOpenDoesNothing() {
        ChainKeeper x = new ChainKeeper(1, 20);
        Checks.writeThrough(x, 1, 0, 5);
        x.read(0, 0, 0);
        x.duplicate(0);
        x.deliver(0);
        Checks.deliverShown(x, 7000001);
        due("VALUE", 5, x.client(0, 3));
        x.write(1, 0, 6);
        Checks.deliverShown(x, 1000002);
        Checks.deliverShown(x, 2000001);
        doesNothing("a REPLY with a newer value", x, 7000001);
        due("VALUE", 5, x.client(0, 3));
    }

    static void promise04_reply_ofAnotherClientsRequestDoesNothing() {
        ChainKeeper x = new ChainKeeper(1, 20);
        x.read(0, 0, 0);
        x.read(1, 0, 5);
        Checks.deliverShown(x, 2000001);
        Checks.deliverShown(x, 7000001);
        due("client 0's request is open no more", 0, x.client(0, 1));
        due("client 1's of the same number is", 1, x.client(1, 1));
    }

    static void promise04_reply_ofAWriteLeavesVersionAndValue() {
        ChainKeeper x = new ChainKeeper(1, 20);
        Checks.writeThrough(x, 0, 0, 5);
        due("VERSION at first", 0, x.client(0, 2));
        due("VALUE at first", 0, x.client(0, 3));
        x.read(0, 0, 0);
        Checks.deliverAll(x);
        Checks.writeThrough(x, 0, 0, 6);
        due("VERSION", 1, x.client(0, 2));
        due("VALUE", 5, x.client(0, 3));
        x.write(0, 0, 7);
        x.duplicate(0);
        x.deliver(0);
        x.drop(1);
        Checks.deliverAll(x);
        due("client(0, 1)", 0, x.client(0, 1));
        due("a REPLY with version 0 leaves VERSION too", 1, x.client(0, 2));
        due("a REPLY with value 0 leaves VALUE too", 5, x.client(0, 3));
    }

    // TICK

    static void promise07_tick_pendingAreSentEachThirdTick() {
        ChainKeeper x = new ChainKeeper(2, 20);
        pendingAtTheHead(x, 0, 1);
        x.tick(1);
        due("at 1", 0, x.messages());
        x.tick(1);
        due("at 2", 0, x.messages());
        x.tick(1);
        due("at 3", 1, x.messages());
        x.tick(2);
        due("at 5", 1, x.messages());
        x.tick(1);
        due("at 6", 2, x.messages());
        x.tick(12);
        due("at 18", 6, x.messages());
    }

    static void promise07_tick_nodeThatIsNotUpSendsNothing() {
        ChainKeeper x = new ChainKeeper(2, 20);
        pendingAtTheHead(x, 0, 1);
        x.crash(0);
        x.tick(3);
        due("messages()", 0, x.messages());
    }

    static void promise07_tick_nodeThatIsNotReadySendsNothing() {
        ChainKeeper x = withTailNotReady();
        x.join(3);
        Checks.deliverAllBut(x, 9, 2);
        x.tick(3);
        dueList("9200000", x);
    }

    static void promise07_tick_nodeWithoutSuccessorSendsNothing() {
        ChainKeeper x = new ChainKeeper(1, 20);
        x.join(1);
        x.deliver(0);
        x.crash(1);
        x.detect(1);
        Checks.deliverAll(x);
        due("it hands over", 1, x.node(0, 5));
        x.tick(3);
        due("but has no successor", 0, x.messages());
    }

    static void promise07_tick_copyOnlyWhileItHandsOver() {
        ChainKeeper x = new ChainKeeper(1, 20);
        x.join(1);
        Checks.deliverFirst(x, 2);
        Checks.dropAll(x);
        x.tick(3);
        dueList("9100000", x);
        Checks.deliverAll(x);
        x.tick(3);
        dueList("", x);
    }

    static void promise07_tick_copyFirstThenPendingInTheOrderOfNodes() {
        ChainKeeper x = new ChainKeeper(3, 20);
        x.write(0, 0, 1);
        x.write(1, 1, 2);
        Checks.deliverFirst(x, 4);
        Checks.dropAll(x);
        x.crash(2);
        x.join(5);
        x.detect(2);
        Checks.deliverShown(x, 8100003);
        due("node 1 hands over", 1, x.node(1, 5));
        due("it has both pending", 2, x.node(1, 4));
        Checks.dropAll(x);
        String configs = Checks.list(x);
        x.tick(3);
        dueList(configs + " 3100001 3100002 9500002 3500001 3500002", x);
    }

    static void promise07_tick_nodesSendBeforeClients() {
        ChainKeeper x = new ChainKeeper(2, 3);
        x.write(0, 0, 1);
        x.deliver(0);
        Checks.dropAll(x);
        x.read(1, 0, 1);
        x.read(2, 0, 0);
        Checks.dropAll(x);
        x.tick(3);
        dueList("3100001 1000001 2100001 2000001", x);
    }

    static void promise07_tick_retryOneTickBeforeAndAtIt() {
        ChainKeeper x = new ChainKeeper(1, 4);
        x.read(0, 0, 0);
        x.drop(0);
        x.tick(3);
        due("one tick before", 0, x.messages());
        x.tick(1);
        due("at it", 1, x.messages());
        x.tick(3);
        due("one tick before the next", 1, x.messages());
        x.tick(1);
        due("at the next", 2, x.messages());
    }

    static void promise07_tick_retryCountsFromTheRequestsOwnTick() {
        ChainKeeper x = new ChainKeeper(1, 4);
        x.tick(3);
        x.read(0, 0, 0);
        x.drop(0);
        x.tick(3);
        due("3 ticks ago", 0, x.messages());
        x.tick(1);
        due("4 ticks ago", 1, x.messages());
    }

    static void promise07_tick_nextRequestCountsAnew() {
        ChainKeeper x = new ChainKeeper(1, 4);
        x.read(0, 0, 0);
        x.tick(3);
        Checks.deliverAll(x);
        x.read(0, 0, 0);
        x.drop(0);
        x.tick(3);
        due("3 ticks ago", 0, x.messages());
        x.tick(1);
        dueList("2000002", x);
    }

    static void promise07_tick_requestThatIsNotOpenIsNotSent() {
        ChainKeeper x = new ChainKeeper(1, 2);
        x.read(0, 0, 0);
        Checks.deliverAll(x);
        Checks.writeThrough(x, 1, 0, 1);
        x.tick(20);
        due("messages()", 0, x.messages());
    }

    static void promise07_tick_requestLostInAFullListCountsAsSent() {
        ChainKeeper x = Checks.filled(new ChainKeeper(1, 4), 60);
        x.tick(1);
        x.write(0, 0, 1);
        x.tick(3);
        x.drop(0);
        x.drop(0);
        x.drop(0);
        due("the write and the read were lost at their ticks", 57, x.messages());
        x.tick(1);
        due("the write is sent 4 ticks later", 58, x.messages());
        due("message(57)", 1000001, x.message(57));
        x.tick(2);
        due("the read is not due yet", 58, x.messages());
        x.tick(1);
        due("the read is sent 4 ticks after its last time", 59, x.messages());
        due("its node is not in the chain", 2000001, x.message(58));
    }

    static void promise07_tick_fullListTakesNoMore() {
        ChainKeeper x = new ChainKeeper(2, 2);
        pendingAtTheHead(x, 0, 8);
        Checks.filled(x, 55);
        x.tick(1);
        x.tick(1);
        due("the read is sent again", 56, x.messages());
        x.tick(1);
        due("4 of 8 have room", 60, x.messages());
        due("message(56)", 3100001, x.message(56));
        due("message(59)", 3100004, x.message(59));
    }

    static void promise07_tick_writeGoesToTheHeadThatTheMasterHas() {
        ChainKeeper x = new ChainKeeper(2, 2);
        x.write(0, 0, 1);
        x.drop(0);
        x.crash(0);
        x.tick(2);
        dueList("1000001", x);
        x.detect(0);
        x.tick(2);
        dueList("1000001 8100002 1100001", x);
    }

    static void promise07_tick_readGoesToItsNodeIfThatIsInTheChain() {
        ChainKeeper x = new ChainKeeper(3, 2);
        x.read(0, 0, 1);
        x.read(1, 0, 2);
        x.read(2, 0, 3);
        Checks.dropAll(x);
        x.tick(2);
        dueList("2100001 2200001 2000001", x);
        Checks.dropAll(x);
        x.crash(1);
        x.tick(2);
        dueList("2100001 2200001 2000001", x);
        Checks.dropAll(x);
        x.detect(1);
        x.join(3);
        x.tick(2);
        dueList("8000002 8200002 8000003 8200003 8300003 2000001 2200001 2300001", x);
    }

    static void promise07_tick_emptyChainSendsNothing() {
        ChainKeeper x = new ChainKeeper(1, 2);
        x.write(0, 0, 1);
        x.read(1, 0, 0);
        x.read(2, 0, 5);
        Checks.dropAll(x);
        x.crash(0);
        x.detect(0);
        x.tick(20);
        due("messages()", 0, x.messages());
        for (int c = 0; c < 3; c++) {
            due("it is open", 1, x.client(c, 1));
        }
    }
}
