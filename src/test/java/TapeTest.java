/** Promises 1 to 3: a new object, feed, end. */
public final class TapeTest {
    private static final Check CHECK = new Check("TapeTest");

    public static void main(String[] args) {
        newObject();
        feed();
        end();
        CHECK.finish();
    }

    private static void newObject() {
        FireDrill x = new FireDrill();
        for (int what = 0; what <= 8; what++) {
            CHECK.is("has of a new object", x.has(what), 0);
        }
        for (int what = 0; what <= 5; what++) {
            CHECK.is("status of a new object", x.status(what), 0);
        }
        CHECK.is("fault(0)", x.fault(0), 0);
        CHECK.is("fault(1)", x.fault(1), -1);
        CHECK.is("far(0)", x.far(0), -1);
        CHECK.is("out(0)", x.out(0), -2);
        CHECK.is("empty()", x.empty(), -1);
        CHECK.is("wardens()", x.wardens(), 0);
        CHECK.is("octet(0)", x.octet(0), -1);
        CHECK.is("house() of no text", x.house(), 0);
        CHECK.is("has(0)", x.has(0), 0);
    }

    private static void feed() {
        FireDrill x = new FireDrill();
        for (int k = 1; k <= 80; k++) {
            CHECK.is("feed", x.feed(0, 0, 0, 0, 0), 20 * k);
        }
        CHECK.is("feed over 1600", x.feed(0, 0, 0, 0, 0), -1);
        CHECK.is("status(0)", x.status(0), 1);
        CHECK.is("end(1581)", x.end(1581), true);
        CHECK.is("feed to 1601", x.feed(0, 0, 0, 0, 0), -1);
        CHECK.is("end(1580)", x.end(1580), true);
        CHECK.is("feed to 1600", x.feed(0, 0, 0, 0, 0), 1600);
        CHECK.is("status(0)", x.status(0), 2);

        FireDrill y = new FireDrill();
        // The highest byte first, and bytes above 127 are no different: "room" and then "\u00ff".
        y.feed(0x726f6f6d, 0x20616263, 0xff000000, 0, 0);
        CHECK.is("house()", y.house(), -1);
        CHECK.is("fault(0)", y.fault(0), 1);
        CHECK.is("fault(1)", y.fault(1), 8);
        CHECK.is("feed behind house(): the tape went", y.feed(0, 0, 0, 0, 0), 20);
        y.feed(0x03e70000, 0, 0, 0, 0);
        CHECK.is("feed goes on behind", y.feed(0, 0, 0, 0, 0), 60);
    }

    private static void end() {
        FireDrill x = new FireDrill();
        CHECK.is("end(0) of an empty tape", x.end(0), true);
        CHECK.is("end(1) of an empty tape", x.end(1), false);
        CHECK.is("end(-1)", x.end(-1), false);
        x.feed(0x726f6f6d, 0x20613b78, 0x78787878, 0, 0);
        CHECK.is("end(21)", x.end(21), false);
        CHECK.is("end(Integer.MIN_VALUE)", x.end(Integer.MIN_VALUE), false);
        CHECK.is("end(Integer.MAX_VALUE)", x.end(Integer.MAX_VALUE), false);
        CHECK.is("status(0)", x.status(0), 5);
        CHECK.is("end(20)", x.end(20), true);
        CHECK.is("end(7)", x.end(7), true);
        CHECK.is("end(8)", x.end(8), false);
        CHECK.is("house()", x.house(), 1);
        CHECK.is("has(0)", x.has(0), 1);
    }
}
