/** What the document's terms say of each message and of the tick, case by case. */
public final class TermsTest {
    private static int wrong = 0;

    private static void due(String what, long want, long got) {
        if (got != want) {
            wrong++;
            System.out.println(what + " answered " + got + ", due is " + want);
        }
    }

    public static void main(String[] args) {
        writeTwice();
        writeAtOtherNodes();
        eightPendingAtTheHead();
        eightPendingInTheMiddle();
        updateOutOfOrder();
        ackOfSeveral();
        answerOfPending();
        answerOfNewerClean();
        answerOfZero();
        queryAtATailThatIsNotReady();
        oldEpochsAreNotTaken();
        newTailCommits();
        newSuccessorGetsACopy();
        sameSuccessorGetsPendingAlone();
        oldConfigDoesNothing();
        copyHoldsPending();
        copyGoesOn();
        copyAgainIsAcknowledged();
        handsOverUntilAck();
        copyBearsTheTable(false);
        copyBearsTheTable(true);
        retryAfterEmptyChain();
        System.out.println(wrong == 0 ? "all answers are as due" : wrong + " answers are not as due");
        if (wrong != 0) {
            System.exit(1);
        }
    }

    private static void deliverAll(ChainKeeper x) {
        for (int k = 0; k < 1000 && x.messages() > 0; k++) {
            x.deliver(0);
        }
    }

    private static void dropAll(ChainKeeper x) {
        for (int k = 0; k < 60 && x.messages() > 0; k++) {
            x.drop(0);
        }
    }

    /** Delivers all but the ACKs, which are lost. */
    private static void deliverWithoutAcks(ChainKeeper x) {
        for (int k = 0; k < 1000 && x.messages() > 0; k++) {
            if (x.message(0) / 1000000 == 4) {
                x.drop(0);
            } else {
                x.deliver(0);
            }
        }
    }

    private static void writeThrough(ChainKeeper x, int c, int key, int value) {
        x.write(c, key, value);
        deliverAll(x);
    }

    private static void writeTwice() {
        ChainKeeper x = new ChainKeeper(2, 5);
        x.write(0, 0, 1);
        x.duplicate(0);
        x.duplicate(0);
        x.duplicate(0);
        x.deliver(0);
        x.deliver(0);
        due("LAST after the same WRITE twice", 1, x.node(0, 2));
        due("a WRITE that is in TABLE alone is not answered", 3, x.messages());
        x.deliver(2);
        due("the tail replies and acknowledges", 7000001, x.message(2));
        due("the tail replies and acknowledges", 4000001, x.message(3));
        x.deliver(3);
        x.deliver(2);
        x.deliver(0);
        due("a WRITE that is DONE gets a REPLY", 7000001, x.message(1));
        due("messages()", 2, x.messages());
        x.deliver(1);
        x.write(0, 0, 2);
        x.deliver(1);
        x.deliver(1);
        x.deliver(2);
        x.deliver(1);
        due("client(0, 1)", 0, x.client(0, 1));
        due("ACKED", 2, x.node(0, 3));
        x.deliver(0);
        due("a WRITE before DONE does nothing", 0, x.messages());
        due("LAST", 2, x.node(0, 2));
    }

    private static void writeAtOtherNodes() {
        ChainKeeper x = new ChainKeeper(2, 5);
        x.crash(0);
        x.detect(0);
        x.write(0, 0, 1);
        x.deliver(1);
        due("one that does not know that it is the head does nothing", 0, x.node(1, 2));
        x.tick(5);
        deliverAll(x);
        due("then it knows", 1, x.node(1, 2));
        due("client(0, 1)", 0, x.client(0, 1));
    }

    private static void eightPendingAtTheHead() {
        ChainKeeper x = new ChainKeeper(2, 5);
        writeThroughWithoutReply(x);
        for (int k = 1; k <= 8; k++) {
            x.write(k % 2, k % 4, k);
            deliverWithoutAcks(x);
        }
        due("LAST", 9, x.node(0, 2));
        due("pending", 8, x.node(0, 4));
        x.write(0, 0, 99);
        deliverWithoutAcks(x);
        due("LAST with 8 pending", 9, x.node(0, 2));
        due("pending", 8, x.node(0, 4));
        due("client(0, 1)", 1, x.client(0, 1));
        x.tick(1);
        due("messages()", 1, x.messages());
        due("client 2 sends again", 1000001, x.message(0));
        x.deliver(0);
        due("a WRITE that is DONE gets a REPLY all the same", 7200001, x.message(0));
        dropAll(x);
        x.tick(2);
        due("all pending ones are sent again", 8, x.messages());
        deliverAll(x);
        due("pending", 0, x.node(0, 4));
        x.tick(2);
        deliverAll(x);
        due("client(0, 1)", 0, x.client(0, 1));
        due("value(1, 0)", 99, x.value(1, 0));
        due("clean(1, 0)", 10, x.clean(1, 0));
    }

    /** Client 2's write is done at all nodes, but its REPLY was lost; 4 ticks have gone since. */
    private static void writeThroughWithoutReply(ChainKeeper x) {
        x.write(2, 0, 500);
        x.deliver(0);
        x.deliver(0);
        x.drop(0);
        x.deliver(0);
        x.tick(4);
        due("messages()", 0, x.messages());
        due("client(2, 1)", 1, x.client(2, 1));
    }

    private static void eightPendingInTheMiddle() {
        ChainKeeper x = new ChainKeeper(3, 20);
        for (int k = 1; k <= 8; k++) {
            x.write(k % 2, 0, k);
            deliverAcksToTheHeadOnly(x);
        }
        due("pending at the middle", 8, x.node(1, 4));
        due("pending at the head", 8, x.node(0, 4));
        x.tick(1);
        due("the middle keeps its pending updates", 8, x.node(1, 4));
    }

    private static void deliverAcksToTheHeadOnly(ChainKeeper x) {
        for (int k = 0; k < 1000 && x.messages() > 0; k++) {
            if (x.message(0) / 100000 == 41) {
                x.drop(0);
            } else {
                x.deliver(0);
            }
        }
    }

    private static void updateOutOfOrder() {
        ChainKeeper x = new ChainKeeper(2, 20);
        x.write(0, 0, 1);
        x.write(1, 0, 2);
        x.deliver(0);
        x.deliver(0);
        x.duplicate(0);
        x.deliver(1);
        due("an UPDATE too early does nothing", 0, x.node(1, 2));
        due("messages()", 2, x.messages());
        x.deliver(0);
        due("the next one is applied", 1, x.node(1, 2));
        x.deliver(0);
        due("one that is known is acknowledged again", 4000001, x.message(x.messages() - 1));
        due("messages()", 3, x.messages());
        due("LAST", 1, x.node(1, 2));
        ChainKeeper y = new ChainKeeper(3, 20);
        y.write(0, 0, 1);
        y.deliver(0);
        y.duplicate(0);
        y.deliver(0);
        y.deliver(0);
        due("one that is pending is not acknowledged", 1, y.messages());
        due("message(0)", 3200001, y.message(0));
    }

    private static void ackOfSeveral() {
        ChainKeeper x = new ChainKeeper(3, 20);
        x.write(0, 0, 11);
        x.write(1, 0, 12);
        x.write(2, 1, 13);
        for (int k = 0; k < 9; k++) {
            x.deliver(0);
        }
        due("messages()", 6, x.messages());
        due("message(1)", 4100001, x.message(1));
        due("message(5)", 4100003, x.message(5));
        x.deliver(5);
        due("the middle commits up to the number", 3, x.node(1, 3));
        due("clean(1, 0)", 2, x.clean(1, 0));
        due("value(1, 1)", 13, x.value(1, 1));
        due("and sends one ACK", 4000003, x.message(5));
        due("and no REPLY", 6, x.messages());
        x.deliver(1);
        due("an old ACK does nothing", 5, x.messages());
        due("ACKED", 3, x.node(1, 3));
    }

    private static void answerOfPending() {
        ChainKeeper x = new ChainKeeper(2, 20);
        x.write(0, 2, 61);
        x.deliver(0);
        x.deliver(0);
        x.read(1, 2, 0);
        x.deliver(2);
        due("a dirty key is asked for", 5100001, x.message(2));
        x.deliver(2);
        due("the tail answers the asker", 6000001, x.message(2));
        x.deliver(2);
        due("clean(0, 2)", 0, x.clean(0, 2));
        x.deliver(2);
        due("VERSION is the tail's", 1, x.client(1, 2));
        due("VALUE is that of the pending update", 61, x.client(1, 3));
    }

    private static void answerOfNewerClean() {
        ChainKeeper x = new ChainKeeper(2, 20);
        x.write(0, 2, 61);
        x.deliver(0);
        x.read(1, 2, 0);
        x.deliver(1);
        x.deliver(1);
        due("an ANSWER with the number 0", 6000001, x.message(1));
        x.deliver(0);
        x.deliver(2);
        due("clean(0, 2)", 1, x.clean(0, 2));
        x.deliver(0);
        deliverAll(x);
        due("VERSION is the newer clean one", 1, x.client(1, 2));
        due("VALUE", 61, x.client(1, 3));
    }

    private static void answerOfZero() {
        ChainKeeper x = new ChainKeeper(3, 20);
        x.write(0, 0, 5);
        x.deliver(0);
        x.drop(0);
        x.read(1, 0, 0);
        x.deliver(0);
        x.deliver(0);
        due("an ANSWER", 6000001, x.message(0));
        x.deliver(0);
        due("the clean version is 0 or more", 7100001, x.message(0));
        x.deliver(0);
        due("VERSION", 0, x.client(1, 2));
        due("VALUE", 0, x.client(1, 3));
    }

    private static void queryAtATailThatIsNotReady() {
        ChainKeeper x = new ChainKeeper(2, 20);
        x.write(0, 0, 5);
        x.deliver(0);
        x.join(4);
        x.deliver(1);
        due("pending ones are sent again", 3100001, x.message(3));
        x.deliver(1);
        due("the old tail hands over", 9400000, x.message(3));
        x.deliver(1);
        x.read(1, 0, 0);
        x.deliver(3);
        due("a QUERY goes to the new tail", 5400001, x.message(3));
        x.deliver(3);
        due("which does not take it", 3, x.messages());
        x.deliver(2);
        due("a COPY it takes", 3, x.node(4, 0));
    }

    private static void oldEpochsAreNotTaken() {
        ChainKeeper x = new ChainKeeper(3, 20);
        x.write(0, 0, 5);
        x.deliver(0);
        x.crash(2);
        x.detect(2);
        x.deliver(2);
        due("node(1, 1)", 2, x.node(1, 1));
        x.deliver(0);
        due("an UPDATE of an older epoch", 0, x.node(1, 2));
        x.deliver(0);
        due("the head sends it again in its new epoch", 3100001, x.message(0));
        x.deliver(0);
        due("that is taken", 1, x.node(1, 3));
        ChainKeeper y = new ChainKeeper(3, 20);
        y.write(0, 0, 5);
        y.crash(2);
        y.detect(2);
        y.deliver(1);
        y.deliver(0);
        due("message(1)", 3100001, y.message(1));
        y.deliver(1);
        due("an UPDATE of a newer epoch", 0, y.node(1, 2));
    }

    private static void newTailCommits() {
        ChainKeeper x = new ChainKeeper(3, 20);
        x.write(0, 0, 5);
        x.write(1, 0, 6);
        for (int k = 0; k < 4; k++) {
            x.deliver(0);
        }
        dropAll(x);
        due("pending", 2, x.node(1, 4));
        x.crash(2);
        x.detect(2);
        x.deliver(1);
        due("ACKED", 2, x.node(1, 3));
        due("pending", 0, x.node(1, 4));
        due("messages()", 4, x.messages());
        due("message(1)", 7000001, x.message(1));
        due("message(2)", 7100001, x.message(2));
        due("message(3)", 4000002, x.message(3));
        deliverAll(x);
        due("the head knows too", 2, x.node(0, 3));
        due("value(0, 0)", 6, x.value(0, 0));
    }

    private static void newSuccessorGetsACopy() {
        ChainKeeper x = new ChainKeeper(3, 20);
        x.write(0, 0, 5);
        x.deliver(0);
        dropAll(x);
        x.crash(1);
        x.detect(1);
        x.deliver(0);
        due("messages()", 3, x.messages());
        due("the COPY first", 9200001, x.message(1));
        due("then the pending updates", 3200001, x.message(2));
        due("it hands over", 1, x.node(0, 5));
        x.deliver(0);
        x.deliver(0);
        due("a ready node does not take its versions", 0, x.clean(2, 0));
        due("but acknowledges", 4000000, x.message(1));
        deliverAll(x);
        due("value(2, 0)", 5, x.value(2, 0));
        due("value(0, 0)", 5, x.value(0, 0));
        due("it hands over no more", 0, x.node(0, 5));
    }

    private static void sameSuccessorGetsPendingAlone() {
        ChainKeeper x = new ChainKeeper(3, 20);
        x.write(0, 0, 5);
        x.deliver(0);
        dropAll(x);
        x.crash(2);
        x.detect(2);
        x.deliver(0);
        due("messages()", 2, x.messages());
        due("message(1)", 3100001, x.message(1));
        due("it does not hand over", 0, x.node(0, 5));
    }

    private static void oldConfigDoesNothing() {
        ChainKeeper x = new ChainKeeper(1, 20);
        x.join(1);
        x.join(2);
        x.deliver(2);
        due("node(0, 1)", 3, x.node(0, 1));
        int before = x.messages();
        x.deliver(0);
        due("node(0, 1)", 3, x.node(0, 1));
        due("messages()", before - 1, x.messages());
        x.duplicate(1);
        x.deliver(x.messages() - 1);
        due("node(1, 1)", 3, x.node(1, 1));
    }

    private static void copyHoldsPending() {
        ChainKeeper x = new ChainKeeper(3, 20);
        writeThrough(x, 0, 3, 33);
        x.write(0, 0, 5);
        x.write(1, 0, 6);
        x.write(2, 1, 7);
        for (int k = 0; k < 6; k++) {
            x.deliver(0);
        }
        dropAll(x);
        due("pending", 3, x.node(1, 4));
        x.join(5);
        x.crash(2);
        x.detect(2);
        for (int k = 0; k < 7; k++) {
            x.deliver(0);
        }
        due("node(5, 1)", 3, x.node(5, 1));
        due("node(5, 0)", 1, x.node(5, 0));
        x.tick(3);
        deliverAll(x);
        due("LAST", 4, x.node(5, 2));
        due("ACKED", 4, x.node(5, 3));
        due("clean(5, 0)", 3, x.clean(5, 0));
        due("value(5, 0)", 6, x.value(5, 0));
        due("value(5, 1)", 7, x.value(5, 1));
        due("value(5, 3)", 33, x.value(5, 3));
        due("clean(5, 2)", 0, x.clean(5, 2));
        due("the nodes before it know by its ACK", 4, x.node(0, 3));
    }

    private static void copyGoesOn() {
        ChainKeeper x = new ChainKeeper(1, 20);
        writeThrough(x, 0, 3, 33);
        x.join(2);
        x.join(4);
        for (int k = 0; k < 5; k++) {
            x.deliver(0);
        }
        due("node(2, 1)", 3, x.node(2, 1));
        due("one COPY alone, as the successor stays the same", 1, x.messages());
        due("message(0)", 9200001, x.message(0));
        x.deliver(0);
        due("a COPY of an old epoch is not taken", 1, x.node(2, 0));
        x.tick(3);
        due("it is sent again, as no ACK has come", 9200001, x.message(x.messages() - 1));
        deliverAll(x);
        due("node(2, 0)", 3, x.node(2, 0));
        due("node(4, 0)", 3, x.node(4, 0));
        due("value(4, 3)", 33, x.value(4, 3));
        due("node(0, 5)", 0, x.node(0, 5));
        due("node(2, 5)", 0, x.node(2, 5));
    }

    private static void copyAgainIsAcknowledged() {
        ChainKeeper x = new ChainKeeper(1, 20);
        x.join(1);
        x.deliver(0);
        x.deliver(0);
        x.duplicate(0);
        x.deliver(0);
        x.deliver(0);
        due("messages()", 2, x.messages());
        due("message(0)", 4000000, x.message(0));
        due("message(1)", 4000000, x.message(1));
    }

    private static void handsOverUntilAck() {
        ChainKeeper x = new ChainKeeper(1, 20);
        x.join(1);
        x.deliver(0);
        x.drop(1);
        x.deliver(0);
        due("messages()", 0, x.messages());
        x.tick(6);
        due("a COPY every third tick", 2, x.messages());
        x.deliver(0);
        x.deliver(1);
        due("node(0, 5)", 0, x.node(0, 5));
        x.drop(0);
        x.tick(3);
        due("messages()", 0, x.messages());
        ChainKeeper y = new ChainKeeper(1, 20);
        y.join(1);
        y.deliver(0);
        y.crash(1);
        y.detect(1);
        deliverAll(y);
        due("node(0, 1)", 3, y.node(0, 1));
        due("only an ACK ends it", 1, y.node(0, 5));
        y.tick(3);
        due("but a tail has no successor to send to", 0, y.messages());
    }

    private static void copyBearsTheTable(boolean asDouble) {
        ChainKeeper x = new ChainKeeper(1, 2);
        x.write(1, 0, 5);
        x.duplicate(0);
        x.deliver(1);
        x.drop(1);
        x.join(3);
        x.deliver(1);
        if (asDouble) {
            x.duplicate(2);
            x.drop(2);
        }
        x.deliver(1);
        x.deliver(1);
        due("node(3, 0)", 3, x.node(3, 0));
        x.crash(0);
        x.detect(0);
        due("deliver(0)", 1, x.deliver(0) ? 1 : 0);
        deliverAll(x);
        due("client(1, 1)", 1, x.client(1, 1));
        x.tick(2);
        due("message(0)", 1300001, x.message(0));
        x.deliver(0);
        due("the new head has it in DONE", 7100001, x.message(0));
        due("LAST", 1, x.node(3, 2));
        deliverAll(x);
        due("client(1, 1)", 0, x.client(1, 1));
    }

    private static void retryAfterEmptyChain() {
        ChainKeeper x = new ChainKeeper(1, 3);
        x.write(0, 0, 5);
        x.read(1, 0, 0);
        dropAll(x);
        x.crash(0);
        x.detect(0);
        x.tick(20);
        due("messages()", 0, x.messages());
        due("client(0, 1)", 1, x.client(0, 1));
        due("client(1, 1)", 1, x.client(1, 1));
    }
}
