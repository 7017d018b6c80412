/** The boundary cases of the promises 30 to 35. */
public final class MapBoundsTest extends Bounds {
    public static void main(String[] args) {
        exitRefusals();
        exitOfEachBase();
        exitTold();
        opposites();
        assumed();
        exitFull();
        doorRefusals();
        doorAgainst();
        doorFull();
        leadsAndSort();
        routeAndFirst();
        routeByDoors();
        longRoute();
        due.end();
    }

    private static void exitRefusals() {
        Story s = with(ROOM, ROOM, THING);
        s.refused("30 no such room", UNKNOWN, "exit", 3, 0, 0);
        s.refused("30 a room below 0", UNKNOWN, "exit", -1, 0, 0);
        s.refused("30 nothing is no room to go from", UNKNOWN, "exit", NONE, 0, 0);
        s.refused("30 to no such room", UNKNOWN, "exit", 0, 0, 3);
        s.refused("30 to a room below 0", UNKNOWN, "exit", 0, 0, -1);
        s.refused("30 just above nothing", UNKNOWN, "exit", 0, 0, NONE + 1);
        s.refused("30 just below nothing", UNKNOWN, "exit", 0, 0, NONE - 1);
        s.refused("30 d below 0", OUTSIDE, "exit", 0, -1, 1);
        s.refused("30 d above 7", OUTSIDE, "exit", 0, 8, 1);
        s.refused("30 the least d", OUTSIDE, "exit", 0, LEAST, 1);
        s.refused("30 the greatest d", OUTSIDE, "exit", 0, GREATEST, NONE);
        s.refused("30 the room ahead of d", UNKNOWN, "exit", 2, 8, 1);
        s.refused("30 the other room ahead of d", UNKNOWN, "exit", 0, 8, 2);
        s.due("30 d 0", 0, "exit", 0, 0, 1);
        s.due("30 d 7", 1, "exit", 0, 7, 1);
    }

    private static void exitOfEachBase() {
        Story s = with(THING, ROOM, DOOR, BACKDROP, CARRIER, PERSON, ROOM);
        for (int base = 0; base < 6; base++) {
            if (base != ROOM) {
                s.refused("30 from no room", UNKNOWN, "exit", base, 0, 1);
                s.refused("30 to no room", UNKNOWN, "exit", 1, 0, base);
                s.refused("31 a is no room", UNKNOWN, "door", 2, base, 0, 1);
                s.refused("31 b is no room", UNKNOWN, "door", 2, 1, 0, base);
                s.refused("32 no room", UNKNOWN, "leads", base, 0);
                s.refused("33 no room", UNKNOWN, "sort", base, 0);
                s.refused("34 a is no room", UNKNOWN, "route", base, 1, true);
                s.refused("34 b is no room", UNKNOWN, "route", 1, base, true);
                s.refused("34 both are one, but no room", UNKNOWN, "route", base, base, true);
                s.refused("35 a is no room", UNKNOWN, "first", base, 1, true);
                s.refused("35 b is no room", UNKNOWN, "first", 1, base, true);
                s.refused("35 both are one, but no room", UNKNOWN, "first", base, base, true);
            }
            if (base != DOOR) {
                s.refused("31 it is no door", STATE, "door", base, 1, 0, 6);
            }
        }
        int attic = s.does("thing", s.does("kind", ROOM), 0);
        s.due("30 a kind under room", 0, "exit", attic, 0, 1);
    }

    private static void exitTold() {
        Story s = with(ROOM, ROOM, DOOR);
        s.due("30 to a room", 0, "exit", 0, 0, 1);
        s.refused("30 told so already", STATE, "exit", 0, 0, 1);
        s.refused("30 told otherwise, to itself", against(0), "exit", 0, 0, 0);
        s.refused("30 told otherwise, to nothing", against(0), "exit", 0, 0, NONE);
        s.due("30 to nothing", 1, "exit", 0, 2, NONE);
        s.refused("30 told to nothing already", STATE, "exit", 0, 2, NONE);
        s.refused("30 told to nothing, now to a room", against(1), "exit", 0, 2, 1);
        s.due("31 by a door", 2, "door", 2, 0, 4, 1);
        s.refused("30 a door to the same room is told otherwise", against(2), "exit", 0, 4, 1);
        s.refused("30 and at its other end", against(2), "exit", 1, 5, 0);
        s.refused("30 a door, now to nothing", against(2), "exit", 0, 4, NONE);
        s.due("30 what was assumed is told so", 3, "exit", 1, 1, 0);
        s.refused("30 now it was", STATE, "exit", 1, 1, 0);
        s.due("30 an exit to itself", 4, "exit", 1, 6, 1);
    }

    private static void opposites() {
        int[] opposite = {1, 0, 3, 2, 5, 4, 7, 6};
        for (int d = 0; d < 8; d++) {
            Story s = with(ROOM, ROOM, ROOM, DOOR);
            s.does("exit", 0, d, 1);
            s.does("door", 3, 2, d, 0);
            for (int other = 0; other < 8; other++) {
                String why = "33 opposite of " + d + " at " + other;
                s.due(why, other == opposite[d] ? 1 : 0, "sort", 1, other);
                s.due(why, other == opposite[d] ? 0 : NONE, "leads", 1, other);
                s.due(why, other == opposite[d] ? 3 : other == d ? 2 : 0, "sort", 0, other);
            }
        }
    }

    private static void assumed() {
        Story s = with(ROOM, ROOM, ROOM, DOOR, DOOR);
        s.does("exit", 0, 0, 1);
        s.due("33 assumed", 1, "sort", 1, 1);
        s.does("exit", 2, 0, 1);
        s.due("33 where one is assumed none is", 0, "leads", 1, 1);
        s.does("exit", 1, 1, 2);
        s.due("33 told in its place", 2, "sort", 1, 1);
        s.due("32 told in its place", 2, "leads", 1, 1);
        s.due("33 the other is not touched, for it is told", 2, "sort", 2, 0);
        s.does("exit", 1, 3, NONE);
        s.does("exit", 0, 2, 1);
        s.due("33 none is assumed where nothing is told", 4, "sort", 1, 3);
        s.does("door", 3, 1, 5, 2);
        s.does("exit", 0, 4, 1);
        s.due("33 none is assumed where a door is", 3, "sort", 1, 5);
        s.due("32 none is assumed where a door is", 2, "leads", 1, 5);
        s.does("exit", 0, 6, 1);
        s.due("33 assumed again", 1, "sort", 1, 7);
        s.does("door", 4, 1, 7, 2);
        s.due("33 a door in its place", 3, "sort", 1, 7);
        s.due("33 what was told stays", 2, "sort", 0, 6);
        s.does("exit", 2, 3, 2);
        s.due("33 to itself, assumed", 1, "sort", 2, 2);
        s.due("32 to itself, assumed", 2, "leads", 2, 2);

        Story t = with(ROOM, ROOM, DOOR);
        t.does("door", 2, 0, 0, 1);
        t.due("33 a door is told on both sides", 3, "sort", 1, 1);
        t.does("exit", 0, 2, NONE);
        t.due("33 nothing is assumed of nothing", 0, "sort", 1, 3);
        t.does("exit", 0, 4, 1);
        t.does("exit", 1, 5, NONE);
        t.due("33 nothing told in place of what was assumed", 4, "sort", 1, 5);
        t.due("32 it leads to nothing", NONE, "leads", 1, 5);
        t.due("32 the first still leads there", 1, "leads", 0, 4);
    }

    private static void exitFull() {
        Story s = with(ROOM, ROOM, DOOR);
        s.does("exit", 0, 0, 1);
        s.does("exit", 0, 2, NONE);
        s.does("door", 2, 0, 4, 1);
        s.sentences(299);
        s.due("30 the last sentence", 299, "exit", 1, 1, NONE);
        s.refused("30 300 sentences at most", FULL, "exit", 0, 6, 1);
        s.refused("30 to nothing, too", FULL, "exit", 0, 6, NONE);
        s.refused("30 full ahead of against", FULL, "exit", 0, 0, 0);
        s.refused("30 full ahead of the door", FULL, "exit", 0, 4, 1);
        s.refused("30 told so ahead of full", STATE, "exit", 0, 0, 1);
        s.refused("30 told to nothing ahead of full", STATE, "exit", 0, 2, NONE);
        s.refused("30 d ahead of full", OUTSIDE, "exit", 0, 8, 1);
        s.refused("30 unknown ahead of full", UNKNOWN, "exit", 3, 0, 1);
    }

    private static void doorRefusals() {
        Story s = with(ROOM, ROOM, DOOR, THING);
        s.refused("31 no such thing", UNKNOWN, "door", 4, 0, 0, 1);
        s.refused("31 a thing below 0", UNKNOWN, "door", -1, 0, 0, 1);
        s.refused("31 no such room a", UNKNOWN, "door", 2, 4, 0, 1);
        s.refused("31 a below 0", UNKNOWN, "door", 2, -1, 0, 1);
        s.refused("31 no such room b", UNKNOWN, "door", 2, 0, 0, 4);
        s.refused("31 b is nothing", UNKNOWN, "door", 2, 0, 0, NONE);
        s.refused("31 d below 0", OUTSIDE, "door", 2, 0, -1, 1);
        s.refused("31 d above 7", OUTSIDE, "door", 2, 0, 8, 1);
        s.refused("31 unknown ahead of d", UNKNOWN, "door", 2, 0, 8, 3);
        s.refused("31 unknown ahead of no door", UNKNOWN, "door", 3, 0, 0, 4);
        s.refused("31 d ahead of no door", OUTSIDE, "door", 3, 0, 8, 1);
        s.refused("31 d ahead of a is b", OUTSIDE, "door", 2, 0, 8, 0);
        s.refused("31 it is no door", STATE, "door", 3, 0, 0, 1);
        s.refused("31 a is b", STATE, "door", 2, 0, 0, 0);
        s.due("31 d 7", 0, "door", 2, 0, 7, 1);
        s.due("33 d 7", 3, "sort", 0, 7);
        s.due("33 d 6", 3, "sort", 1, 6);
        s.due("31 d 0", 1, "door", s.does("thing", DOOR, 0), 1, 0, 0);
        s.due("33 d 0", 3, "sort", 1, 0);
        s.due("33 d 1", 3, "sort", 0, 1);
    }

    private static void doorAgainst() {
        Story s = with(ROOM, ROOM, ROOM, DOOR, DOOR);
        s.does("exit", 1, 1, NONE);
        s.does("exit", 0, 0, 2);
        s.refused("31 a's exit ahead of b's, though later", against(1), "door", 3, 0, 0, 1);
        s.refused("31 b's exit", against(0), "door", 3, 2, 0, 1);
        s.refused("31 the exit of a there to b itself", against(1), "door", 3, 0, 0, 2);
        s.due("31 in place of what was assumed of a", 2, "door", 3, 2, 1, 1);
        s.refused("31 the door of it, though it is told the same", against(2), "door", 3, 2, 1, 1);
        s.refused("31 the door of it ahead of a's exit", against(2), "door", 3, 0, 0, 1);
        s.refused("31 the door of it elsewhere", against(2), "door", 3, 0, 4, 1);
        s.refused("31 another door at a", against(2), "door", 4, 2, 1, 0);
        s.refused("31 another door at b", against(2), "door", 4, 2, 1, 1);
        s.does("exit", 0, 6, 2);
        s.due("31 in place of what was assumed of b", 4, "door", 4, 1, 6, 2);
        s.due("32 in place of what was assumed of b", 1, "leads", 2, 7);

        Story t = with(DOOR, ROOM, ROOM);
        t.does("door", 0, 1, 0, 2);
        t.refused("31 the door 0, told by the sentence 0", against(0), "door", 0, 1, 2, 2);
        t.due("34 the door 0 is not open", NONE, "route", 1, 2, false);

        Story u = with(DOOR, ROOM, ROOM);
        u.does("exit", 1, 0, NONE);
        u.refused("31 a's exit is the sentence 0", against(0), "door", 0, 1, 0, 2);
        u.refused("31 b's exit is the sentence 0", against(0), "door", 0, 2, 1, 1);
    }

    private static void doorFull() {
        Story s = with(ROOM, ROOM, DOOR, DOOR, DOOR);
        s.does("exit", 0, 0, 1);
        s.does("door", 3, 0, 6, 1);
        s.sentences(299);
        s.due("31 the last sentence", 299, "door", 2, 0, 2, 1);
        s.refused("31 300 sentences at most", FULL, "door", 4, 0, 4, 1);
        s.refused("31 full ahead of the exit", FULL, "door", 4, 0, 0, 1);
        s.refused("31 full ahead of the door of it", FULL, "door", 3, 0, 4, 1);
        s.refused("31 no door ahead of full", STATE, "door", 0, 0, 4, 1);
        s.refused("31 a is b ahead of full", STATE, "door", 4, 0, 4, 0);
        s.refused("31 d ahead of full", OUTSIDE, "door", 4, 0, 8, 1);
        s.refused("31 unknown ahead of full", UNKNOWN, "door", 5, 0, 4, 1);
    }

    private static void leadsAndSort() {
        Story s = with(ROOM, ROOM, THING);
        int[] sorts = {0, 1, 2, 3, 4};
        s.does("exit", 1, 3, 0);
        s.does("exit", 0, 4, 1);
        s.does("door", s.does("thing", DOOR, 0), 0, 6, 1);
        s.does("exit", 0, 7, NONE);
        int[] at = {0, 2, 4, 6, 7};
        int[] to = {NONE, 1, 1, 1, NONE};
        for (int i = 0; i < 5; i++) {
            s.due("33 each sort", sorts[i], "sort", 0, at[i]);
            s.due("32 of each sort", to[i], "leads", 0, at[i]);
        }
        for (String name : new String[] {"leads", "sort"}) {
            s.refused("no such room", UNKNOWN, name, 4, 0);
            s.refused("a room below 0", UNKNOWN, name, -1, 0);
            s.refused("a thing", UNKNOWN, name, 2, 0);
            s.refused("d below 0", OUTSIDE, name, 0, -1);
            s.refused("d above 7", OUTSIDE, name, 0, 8);
            s.refused("the least d", OUTSIDE, name, 0, LEAST);
            s.refused("the greatest d", OUTSIDE, name, 0, GREATEST);
            s.refused("the room ahead of d", UNKNOWN, name, 2, 8);
        }
        s.due("32 the last d", NONE, "leads", 1, 1);
        s.due("33 d 0", 0, "sort", 1, 0);
    }

    private static void routeAndFirst() {
        Story s = with(ROOM, ROOM, ROOM, ROOM, THING);
        for (String name : new String[] {"route", "first"}) {
            s.refused("no such a", UNKNOWN, name, 5, 0, false);
            s.refused("a below 0", UNKNOWN, name, -1, 0, false);
            s.refused("no such b", UNKNOWN, name, 0, 5, true);
            s.refused("b below 0", UNKNOWN, name, 0, -1, true);
            s.refused("both are none", UNKNOWN, name, 5, 5, false);
        }
        s.due("34 a is b", 0, "route", 0, 0, false);
        s.due("35 a is b", NONE, "first", 0, 0, false);
        s.due("34 none", NONE, "route", 0, 1, true);
        s.due("35 none", NONE, "first", 0, 1, true);
        s.does("exit", 0, 7, 1);
        s.due("34 from one that has no exit", NONE, "route", 2, 0, true);
        s.due("34 one", 1, "route", 0, 1, false);
        s.due("35 the direction 7", 7, "first", 0, 1, false);
        s.due("34 by what is assumed", 1, "route", 1, 0, false);
        s.due("35 by what is assumed", 6, "first", 1, 0, false);
        s.does("exit", 0, 2, 1);
        s.due("35 the least of two to the same room", 2, "first", 0, 1, false);
        s.does("exit", 1, 0, 3);
        s.does("exit", 0, 1, 2);
        s.does("exit", 2, 5, 3);
        s.due("34 two", 2, "route", 0, 3, false);
        s.due("35 the least of two ways", 1, "first", 0, 3, false);
        s.due("34 a is b, though it could go round", 0, "route", 0, 0, false);
        s.due("35 a is b, though it could go round", NONE, "first", 0, 0, false);
        s.does("exit", 0, 0, 0);
        s.due("35 an exit to itself leads nowhere", 1, "first", 0, 3, false);
        s.does("exit", 0, 4, 3);
        s.due("34 now one", 1, "route", 0, 3, false);
        s.due("35 the shorter, not the least direction", 4, "first", 0, 3, false);
    }

    private static void routeByDoors() {
        Story s = with(ROOM, ROOM, ROOM, DOOR);
        s.does("door", 3, 0, 0, 1);
        s.does("exit", 1, 2, 2);
        s.due("34 a door that is not open", NONE, "route", 0, 2, false);
        s.due("35 a door that is not open", NONE, "first", 0, 2, false);
        s.due("34 from its other side", NONE, "route", 2, 0, false);
        s.due("34 any", 2, "route", 0, 2, true);
        s.due("35 any", 0, "first", 0, 2, true);
        s.due("34 any, from its other side", 2, "route", 2, 0, true);
        s.does("open", 3, true);
        s.due("34 open", 2, "route", 0, 2, false);
        s.due("35 open", 0, "first", 0, 2, false);
        s.due("34 open, from its other side", 2, "route", 2, 0, false);
        s.due("34 open, any", 2, "route", 0, 2, true);
        s.does("open", 3, false);
        s.due("34 shut again", NONE, "route", 0, 2, false);
        s.does("exit", 0, 5, 1);
        s.due("34 round the door", 2, "route", 0, 2, false);
        s.due("35 round the door", 5, "first", 0, 2, false);
        s.due("35 any takes the least", 0, "first", 0, 2, true);
    }

    private static void longRoute() {
        Story s = story();
        for (int room = 0; room < 64; room++) {
            s.does("thing", ROOM, 0);
        }
        for (int room = 63; room > 0; room--) {
            s.does("exit", room, 3, room - 1);
        }
        s.due("34 63 exits", 63, "route", 63, 0, false);
        s.due("34 63 exits back, all assumed", 63, "route", 0, 63, false);
        s.due("35 the first", 3, "first", 63, 0, false);
        s.due("35 the first back", 2, "first", 0, 63, false);
        s.does("exit", 31, 2, NONE);
        s.due("34 nothing told in place of an assumed one", NONE, "route", 0, 63, false);
        s.due("34 the other way still", 63, "route", 63, 0, false);
    }
}
