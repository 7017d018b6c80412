/** Promises 30 to 35. */
public final class MapTest {
    private static final int UNKNOWN = -1, OUTSIDE = -2, STATE = -3, FULL = -4, NONE = -9;
    private static final Due due = new Due();

    public static void main(String[] args) {
        exits();
        assumed();
        doors();
        routes();
        full();
        due.end();
    }

    private static void exits() {
        WorldMake x = new WorldMake();
        int a = x.thing(1, 0);
        int b = x.thing(1, 0);
        int t = x.thing(0, 0);
        due.is("30 no room", x.exit(3, 0, a), UNKNOWN);
        due.is("30 a thing", x.exit(t, 0, a), UNKNOWN);
        due.is("30 to a thing", x.exit(a, 0, t), UNKNOWN);
        due.is("30 to no thing", x.exit(a, 0, -1), UNKNOWN);
        due.is("30 unknown ahead", x.exit(a, 8, 3), UNKNOWN);
        due.is("30 d", x.exit(a, 8, b), OUTSIDE);
        due.is("30 d below", x.exit(a, -1, b), OUTSIDE);
        due.is("32 none", x.leads(a, 0), NONE);
        due.is("33 none", x.sort(a, 0), 0);
        due.is("30 exit", x.exit(a, 7, b), 0);
        due.is("30 so already", x.exit(a, 7, b), STATE);
        due.is("30 otherwise", x.exit(a, 7, a), Due.against(0));
        due.is("30 to nothing", x.exit(a, 7, NONE), Due.against(0));
        due.is("32 leads", x.leads(a, 7), b);
        due.is("33 told", x.sort(a, 7), 2);
        due.is("33 assumed", x.sort(b, 6), 1);
        due.is("32 assumed", x.leads(b, 6), a);
        due.is("30 nothing", x.exit(a, 0, NONE), 1);
        due.is("30 nothing already", x.exit(a, 0, NONE), STATE);
        due.is("30 not nothing", x.exit(a, 0, a), Due.against(1));
        due.is("33 nothing", x.sort(a, 0), 4);
        due.is("32 nothing", x.leads(a, 0), NONE);
        due.is("32 no room", x.leads(t, 9), UNKNOWN);
        due.is("32 d", x.leads(a, 8), OUTSIDE);
        due.is("32 d below", x.leads(a, -1), OUTSIDE);
        due.is("33 no room", x.sort(-1, 0), UNKNOWN);
        due.is("33 d", x.sort(a, 8), OUTSIDE);
        due.is("52 sort", x.sentence(0, 0), 8);
        due.is("52 room", x.sentence(0, 1), a);
        due.is("52 d", x.sentence(0, 2), 7);
    }

    private static void assumed() {
        WorldMake x = new WorldMake();
        int a = x.thing(1, 0);
        int b = x.thing(1, 0);
        int c = x.thing(1, 0);
        x.exit(a, 0, b);
        x.exit(c, 0, b);
        due.is("32 the first assumed one stays", x.leads(b, 1), a);
        due.is("30 told in its place", x.exit(b, 1, c), 2);
        due.is("33 told", x.sort(b, 1), 2);
        due.is("32 told", x.leads(b, 1), c);
        x.exit(b, 4, NONE);
        x.exit(a, 5, b);
        due.is("33 told to nothing stays", x.sort(b, 4), 4);
        x.exit(c, 2, c);
        due.is("33 to itself", x.sort(c, 3), 1);
        due.is("32 to itself", x.leads(c, 3), c);
        due.is("30 assumed, then told so", x.exit(c, 3, c), 6);
        due.is("33 told so", x.sort(c, 3), 2);
        x.exit(a, 6, b);
        due.is("33 assumed", x.sort(b, 7), 1);
        due.is("30 nothing in its place", x.exit(b, 7, NONE), 8);
        due.is("32 nothing", x.leads(b, 7), NONE);
    }

    private static void doors() {
        WorldMake x = new WorldMake();
        int a = x.thing(1, 0);
        int b = x.thing(1, 0);
        int c = x.thing(1, 0);
        int gate = x.thing(2, 0);
        int hatch = x.thing(x.kind(2), 0);
        int t = x.thing(0, 0);
        due.is("31 no thing", x.door(6, a, 0, b), UNKNOWN);
        due.is("31 no room a", x.door(gate, t, 0, b), UNKNOWN);
        due.is("31 no room b", x.door(gate, a, 0, NONE), UNKNOWN);
        due.is("31 unknown ahead", x.door(t, a, 8, 6), UNKNOWN);
        due.is("31 d ahead of state", x.door(t, a, 8, b), OUTSIDE);
        due.is("31 d below", x.door(gate, a, -1, b), OUTSIDE);
        due.is("31 no door", x.door(t, a, 0, b), STATE);
        due.is("31 a is b", x.door(gate, a, 0, a), STATE);
        x.exit(a, 0, b);
        x.exit(c, 2, b);
        due.is("31 a's exit ahead of b's", x.door(gate, a, 0, c), Due.against(0));
        due.is("31 b's exit", x.door(gate, b, 3, c), Due.against(1));
        due.is("31 in place of assumed ones", x.door(gate, b, 1, c), 2);
        due.is("33 by a door", x.sort(b, 1), 3);
        due.is("33 by a door, b", x.sort(c, 0), 3);
        due.is("32 by a door", x.leads(b, 1), c);
        due.is("32 by a door, b", x.leads(c, 0), b);
        due.is("31 the door of it", x.door(gate, b, 1, c), Due.against(2));
        due.is("31 the door of it first", x.door(gate, a, 0, c), Due.against(2));
        due.is("31 another door's", x.door(hatch, c, 0, a), Due.against(2));
        due.is("30 told by a door", x.exit(b, 1, c), Due.against(2));
        due.is("30 told by a door, b", x.exit(c, 0, NONE), Due.against(2));
        due.is("31 hatch", x.door(hatch, a, 7, b), 3);
        due.is("33 opposite", x.sort(b, 6), 3);
        due.is("52 sort", x.sentence(3, 0), 9);
        due.is("52 door", x.sentence(3, 1), hatch);
        due.is("52 a", x.sentence(3, 2), a);
    }

    private static void routes() {
        WorldMake x = new WorldMake();
        for (int i = 0; i < 7; i++) {
            x.thing(1, 0);
        }
        int gate = x.thing(2, 0);
        x.exit(0, 5, 1);
        x.exit(0, 2, 2);
        x.exit(1, 5, 3);
        x.exit(2, 2, 3);
        x.exit(3, 0, 4);
        x.exit(4, 1, NONE);
        x.door(gate, 0, 7, 4);
        due.is("34 no room", x.route(gate, 0, true), UNKNOWN);
        due.is("34 no room b", x.route(0, 8, true), UNKNOWN);
        due.is("35 no room", x.first(-1, 0, true), UNKNOWN);
        due.is("35 no room b", x.first(0, gate, true), UNKNOWN);
        due.is("34 three", x.route(0, 4, false), 3);
        due.is("35 the least", x.first(0, 4, false), 2);
        due.is("35 only by 5", x.first(0, 1, false), 5);
        due.is("34 any", x.route(0, 4, true), 1);
        due.is("35 any", x.first(0, 4, true), 7);
        due.is("34 back is barred", x.route(4, 0, false), NONE);
        due.is("35 back is barred", x.first(4, 0, false), NONE);
        due.is("34 back by the door", x.route(4, 0, true), 1);
        due.is("35 back by the door", x.first(4, 0, true), 6);
        x.open(gate, true);
        due.is("34 open", x.route(4, 3, false), 3);
        due.is("35 open", x.first(4, 3, false), 6);
        due.is("34 itself", x.route(5, 5, false), 0);
        due.is("35 itself", x.first(5, 5, false), NONE);
        due.is("34 none", x.route(0, 5, true), NONE);
        due.is("35 none", x.first(0, 5, true), NONE);
        due.is("35 the least of three", x.first(3, 0, false), 0);
        x.open(gate, false);
        due.is("34 by assumed ones", x.route(3, 0, false), 2);
        due.is("35 by assumed ones", x.first(3, 0, false), 3);
    }

    private static void full() {
        WorldMake x = new WorldMake();
        int a = x.thing(1, 0);
        int b = x.thing(1, 0);
        int gate = x.thing(2, 0);
        int p = x.property(0, 0, 0);
        x.exit(a, 0, b);
        while (x.count(3) < 300) {
            x.give(a, p, 1);
        }
        due.is("30 state ahead of full", x.exit(a, 0, b), STATE);
        due.is("30 full ahead of against", x.exit(a, 0, a), FULL);
        due.is("31 state ahead of full", x.door(gate, a, 0, a), STATE);
        due.is("31 full ahead of against", x.door(gate, a, 0, b), FULL);
        due.is("33 unchanged", x.sort(a, 2), 0);
    }
}
