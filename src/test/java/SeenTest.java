/** Promises 26 to 28: see, shuts, whom. */
public final class SeenTest {
    private static final Check CHECK = new Check("SeenTest");
    /** Two ways from the top: by a or by b; x in a, y in b, z above both, w on the lawn. */
    private static final String HOUSE = "room l;room a;room b;room t;stair a to l wide 1;stair b to l wide 1;stair t to a wide 1;"
        + "stair t to b wide 1;part p post 1;clerk x in a of p pace 1 bag 0;clerk y in b of p pace 1 bag 0;"
        + "clerk z in t of p pace 1 bag 0;clerk w in l of p pace 1 bag 0;";

    public static void main(String[] args) {
        seeRows();
        shuts();
        whom();
        whomOfLike();
        CHECK.finish();
    }

    private static FireDrill house() {
        return CHECK.house(HOUSE, 13);
    }

    private static void see(FireDrill x, int due, int... bytes) {
        Check.tape(x, bytes);
        CHECK.is("see() of " + bytes.length + " bytes", x.see(), due);
    }

    private static void seeRows() {
        FireDrill x = house();
        see(x, -1);
        see(x, -1, 0);
        see(x, -1, 0, 1, 2);
        see(x, -1, 4, 0);
        see(x, -1, 255, 0);
        see(x, -1, 0, 9);
        see(x, -1, 0, 98);
        see(x, -1, 0, 100);
        see(x, -1, 0, 254);
        see(x, -1, 0, 1, 0, 9);
        CHECK.is("status(1)", x.status(1), 10);
        CHECK.is("has(7)", x.has(7), 0);
        see(x, 1, 0, 0);
        see(x, 1, 0, 8);
        see(x, 1, 3, 99);
        see(x, 1, 3, 255);
        see(x, 3, 0, 0, 1, 0, 0, 0);
        CHECK.is("has(7)", x.has(7), 3);
        see(x, -1, 0, 9);
        CHECK.is("has(7) stays", x.has(7), 3);
        CHECK.is("feed: the tape went", x.feed(0, 0, 0, 0, 0), 20);
        x.end(0);
        see(x, 16, new int[32]);
        see(x, -1, new int[34]);
        CHECK.is("has(7)", x.has(7), 16);
        CHECK.is("status(1)", x.status(1), 12);
        CHECK.is("fault(0): see() has none", x.fault(0), 0);
        see(new FireDrill(), -1, 0, 0);
    }

    private static void shuts() {
        FireDrill x = house();
        CHECK.is("out(0)", x.out(0), 0);
        CHECK.is("out(1)", x.out(1), 0);
        CHECK.is("out(2)", x.out(2), 1);
        // With stair 0 shut, a is three from the lawn, by t and b; likewise b with stair 1 shut.
        x.shut(0, 1);
        CHECK.is("out(0) with stair 0 shut", x.out(0), 2);
        x.shut(0, 0);
        x.shut(1, 1);
        CHECK.is("out(1) with stair 1 shut", x.out(1), 2);
        x.shut(1, 0);
        CHECK.is("shuts(0)", x.shuts(0), 15);
        CHECK.is("shuts(1)", x.shuts(1), 1);
        CHECK.is("shuts(2)", x.shuts(2), -1);
        CHECK.is("shuts(-1)", x.shuts(-1), -1);
        see(x, 1, 0, 0);
        CHECK.is("shuts(0) without stair 0", x.shuts(0), 14);
        CHECK.is("shuts(1)", x.shuts(1), 1);
        see(x, 1, 0, 2);
        CHECK.is("shuts(0): stair 0", x.shuts(0), 1);
        CHECK.is("shuts(1)", x.shuts(1), 0);
        see(x, 2, 0, 0, 1, 2);
        CHECK.is("shuts(0): stair 1", x.shuts(0), 2);
        see(x, 2, 0, 2, 1, 2);
        CHECK.is("shuts(0): not two", x.shuts(0), 0);
        CHECK.is("shuts(1)", x.shuts(1), 0);
        see(x, 2, 0, 0, 0, 2);
        CHECK.is("shuts(0): not both", x.shuts(0), 0);
        see(x, 1, 3, 255);
        CHECK.is("shuts(0): ahead of all", x.shuts(0), 15);
        see(x, 1, 2, 99);
        CHECK.is("shuts(0): the top is left by either way", x.shuts(0), 0);
        x.shut(2, 1);
        CHECK.is("shuts(0): with one shut the other way is the only one", x.shuts(0), 10);
        CHECK.is("shuts(1)", x.shuts(1), 0);
        see(x, 1, 3, 255);
        CHECK.is("shuts(0): those that are shut are none", x.shuts(0), 11);
        CHECK.is("shuts(1)", x.shuts(1), 1);
        x.drills(3);
        x.undo();
        x.undo();
        CHECK.is("what is seen stays", x.has(7), 1);
        CHECK.is("shuts(0)", x.shuts(0), 15);
    }

    private static void whom() {
        FireDrill x = house();
        // x tells stair 0 from the four others, y stair 1 from them, z none from another, w none.
        CHECK.is("out(2)", x.out(2), 1);
        CHECK.is("whom(0)", x.whom(0), 0);
        CHECK.is("whom(1)", x.whom(1), 4);
        CHECK.is("whom(2)", x.whom(2), -1);
        CHECK.is("whom(-1)", x.whom(-1), -1);
        see(x, 1, 0, 0);
        CHECK.is("whom(0): stair 1 from 2, 3, none", x.whom(0), 1);
        CHECK.is("whom(1)", x.whom(1), 3);
        see(x, 1, 0, 2);
        CHECK.is("whom(0) with one left: the first", x.whom(0), 0);
        CHECK.is("whom(1)", x.whom(1), 1);
        see(x, 1, 3, 0);
        CHECK.is("whom(0) without any", x.whom(0), -1);
        CHECK.is("whom(1) without any", x.whom(1), -1);
        FireDrill bare = CHECK.house("room l;part p post 0;clerk x in l of p pace 1 bag 0;", 3);
        CHECK.is("whom(0) with none alone", bare.whom(0), 0);
        CHECK.is("whom(1) with none alone", bare.whom(1), 1);
        FireDrill nobody = CHECK.house("room l;room a;stair a to l wide 1;", 3);
        CHECK.is("shuts(0) without clerks", nobody.shuts(0), 1);
        CHECK.is("shuts(1) without clerks", nobody.shuts(1), 1);
        CHECK.is("whom(0) without clerks", nobody.whom(0), -1);
        CHECK.is("whom(1) without clerks", nobody.whom(1), -1);
    }

    private static void whomOfLike() {
        // A way of three stairs: who is above tells most.
        FireDrill x = CHECK.house("room l;room a;room b;room c;stair a to l wide 1;stair b to a wide 1;stair c to a wide 1;part p post 0;"
            + "clerk x in a of p pace 1 bag 0;clerk y in b of p pace 1 bag 0;clerk z in c of p pace 1 bag 0;", 11);
        // OUT of y: none 1; stair 0: 99; stair 1: 99; stair 2: 1. Two and two; of z likewise; of x one and three.
        CHECK.is("whom(0)", x.whom(0), 1);
        CHECK.is("whom(1)", x.whom(1), 2);
        x.shut(1, 1);
        // Left: none, stairs 0 and 2. OUT of x: 0 99 0; y 99 99 99; z 1 99 99.
        CHECK.is("whom(0)", x.whom(0), 0);
        CHECK.is("whom(1)", x.whom(1), 2);
    }
}
