/** Texts that several tests use: houses of any size, and one with acts behind it. */
final class Texts {
    /** The rooms a and b, for what comes behind them. */
    static final String ROOMS = "room a;room b;";
    /** The room a and the section p, for what comes behind them. */
    static final String PARTS = "room a;part p post 1;";
    /** A lawn, two rooms and three stairs; who is in b turns back in minute 7. */
    static final String SMALL = "room l;room a;room b;stair a to l wide 2;stair b to a wide 1;stair b to l wide 1;"
        + "part p post 0;part q post 2;clerk x in l of p pace 1 bag 1;clerk y in a of q pace 2 bag 2;"
        + "clerk z in b of p pace 1 bag 3;turns minute=7 and bag=3;dear long*bag-other;smoke 50;";
    static final int SMALL_STATEMENTS = 14;

    private Texts() {
    }

    /** Rooms ra, rb and so on. */
    static String rooms(int n) {
        StringBuilder text = new StringBuilder();
        for (int k = 0; k < n; k++) {
            text.append("room r").append(letter(k)).append(';');
        }
        return text.toString();
    }

    /** Up to 13 stairs: from the lawn to each of seven rooms, then from the next room to those behind it. */
    static String stairs(int n) {
        StringBuilder text = new StringBuilder();
        for (int k = 0; k < n; k++) {
            int one = k < 7 ? 0 : 1;
            int other = k < 7 ? k + 1 : k - 5;
            text.append("stair r").append(letter(one)).append(" to r").append(letter(other)).append(" wide 1;");
        }
        return text.toString();
    }

    /** Stairs of one way: rb to ra, rc to rb and so on. */
    static String way(int n, int wide) {
        StringBuilder text = new StringBuilder();
        for (int k = 0; k < n; k++) {
            text.append("stair r").append(letter(k + 1)).append(" to r").append(letter(k)).append(" wide ").append(wide).append(';');
        }
        return text.toString();
    }

    /** Sections pa, pb and so on with these posts. */
    static String parts(int... posts) {
        StringBuilder text = new StringBuilder();
        for (int k = 0; k < posts.length; k++) {
            text.append("part p").append(letter(k)).append(" post ").append(posts[k]).append(';');
        }
        return text.toString();
    }

    /** Clerks ca, cb and so on of section pa, in the rooms of these numbers. */
    static String clerks(int pace, int... rooms) {
        StringBuilder text = new StringBuilder();
        for (int k = 0; k < rooms.length; k++) {
            text.append(clerk(k, rooms[k], 0, pace, 0));
        }
        return text.toString();
    }

    static String clerk(int k, int room, int section, int pace, int bag) {
        return "clerk c" + letter(k) + " in r" + letter(room) + " of p" + letter(section) + " pace " + pace + " bag " + bag + ";";
    }

    /** Clerks on the lawn, by the numbers of their sections; the bag of each is his number. */
    static String onLawn(int... sections) {
        StringBuilder text = new StringBuilder();
        for (int k = 0; k < sections.length; k++) {
            text.append(clerk(k, 0, sections[k], 1, k));
        }
        return text.toString();
    }

    private static char letter(int k) {
        return (char) ('a' + k);
    }

    /** An object of the small house that has been used: a post, a stair, drills, smoke, a row seen, an image, a seed. */
    static FireDrill used() {
        FireDrill x = new FireDrill();
        Check.tape(x, SMALL);
        x.house();
        x.post(1, 3);
        x.shut(2, 1);
        x.drills(3);
        x.chance(2);
        Check.tape(x, 0, 255);
        x.see();
        x.image();
        x.seed(77);
        return x;
    }

    /** The bytes, and behind them the last byte of an image. */
    static int[] image(int... bytes) {
        int[] all = java.util.Arrays.copyOf(bytes, bytes.length + 1);
        int c = 107;
        for (int b : bytes) {
            c = (3 * c + b) % 251;
        }
        all[bytes.length] = c;
        return all;
    }
}
