/** The boundary cases of the promises 24 to 29. */
public final class RelationsBoundsTest extends Bounds {
    public static void main(String[] args) {
        relation();
        relateUnknown();
        relateState();
        relateDenied();
        relateDeniedGroups();
        relateByForm();
        relateFull();
        deny();
        denyAgainst();
        denyGroups();
        denyFull();
        related();
        along();
        next();
        due.end();
    }

    private static Story withRelation(int form) {
        Story s = with(THING, ROOM, DOOR, BACKDROP, CARRIER, PERSON);
        s.does("relation", form);
        return s;
    }

    private static void relation() {
        Story s = with(THING, THING);
        s.refused("24 a form below 0", OUTSIDE, "relation", -1);
        s.refused("24 a form above 5", OUTSIDE, "relation", 6);
        s.refused("24 the least form", OUTSIDE, "relation", LEAST);
        s.refused("24 the greatest form", OUTSIDE, "relation", GREATEST);
        s.due("24 the form 0", 0, "relation", 0);
        s.due("24 the form 5", 1, "relation", 5);
        for (int r = 2; r < 7; r++) {
            s.due("24 more", r, "relation", r - 1);
        }
        s.due("24 the last one", 7, "relation", 3);
        s.refused("24 relations are 0 .. 7", FULL, "relation", 0);
        s.refused("24 the form ahead of full", OUTSIDE, "relation", 6);
        s.refused("24 the form below 0 ahead of full", OUTSIDE, "relation", -1);
        s.due("25 by the last one", 0, "relate", 7, 0, 1);
        s.refused("25 there is no 8", UNKNOWN, "relate", 8, 0, 1);
        s.due("27 by another one", 0, "related", 6, 0, 1);
        s.due("53 eight", 8, "count", 4);
    }

    private static void relateUnknown() {
        Story s = withRelation(3);
        for (String name : new String[] {"relate", "deny", "related", "along", "next"}) {
            s.refused("no such relation", UNKNOWN, name, 1, 0, 1);
            s.refused("a relation below 0", UNKNOWN, name, -1, 0, 1);
            s.refused("no such a", UNKNOWN, name, 0, 6, 1);
            s.refused("a below 0", UNKNOWN, name, 0, -1, 1);
            s.refused("no such b", UNKNOWN, name, 0, 0, 6);
            s.refused("b below 0", UNKNOWN, name, 0, 0, -1);
            s.refused("b is nothing", UNKNOWN, name, 0, 0, NONE);
            s.refused("a is b, but there is none", UNKNOWN, name, 0, 6, 6);
            s.refused("a is b, but there is no relation", UNKNOWN, name, 1, 0, 0);
            s.refused("the least a", UNKNOWN, name, 0, LEAST, 0);
            s.refused("the greatest b", UNKNOWN, name, 0, 0, GREATEST);
        }
    }

    private static void relateState() {
        for (int form = 0; form < 6; form++) {
            Story s = withRelation(form);
            String why = "25 form " + form;
            s.refused(why + ", a is b", STATE, "relate", 0, 2, 2);
            s.due(why, 0, "relate", 0, 0, 5);
            s.refused(why + ", it is so already", STATE, "relate", 0, 0, 5);
            if (form >= 4) {
                s.refused(why + ", it is so already, turned", STATE, "relate", 0, 5, 0);
            } else {
                s.due(why + ", turned it is another", 1, "relate", 0, 5, 0);
            }
        }
        Story s = withRelation(5);
        s.does("relate", 0, 0, 1);
        s.does("relate", 0, 2, 1);
        s.refused("25 those that are together are all together", STATE, "relate", 0, 0, 2);
    }

    private static void relateDenied() {
        for (int form = 0; form < 4; form++) {
            Story s = withRelation(form);
            String why = "25 form " + form;
            s.does("deny", 0, 1, 0);
            s.does("deny", 0, 0, 1);
            s.refused(why + ", the deny of it, this way round", against(1), "relate", 0, 0, 1);
            s.refused(why + ", the deny of it, turned", against(0), "relate", 0, 1, 0);
            s.due(why + ", another", 2, "relate", 0, 0, 2);
        }
        Story s = withRelation(4);
        s.does("deny", 0, 1, 0);
        s.does("deny", 0, 0, 1);
        s.refused("25 each other, the first of both", against(0), "relate", 0, 0, 1);
        s.refused("25 each other, the first of both, turned", against(0), "relate", 0, 1, 0);
        s.does("deny", 0, 2, 3);
        s.refused("25 each other, the only one, turned", against(2), "relate", 0, 3, 2);
        s.due("25 each other, denied with another", 3, "relate", 0, 3, 1);
        s.due("25 each other, denied to another", 4, "relate", 0, 1, 2);
        s.due("25 each other, neither was denied", 5, "relate", 0, 4, 5);

        Story t = withRelation(0);
        t.does("relate", 0, 0, 1);
        t.does("relate", 0, 2, 3);
        t.does("deny", 0, 0, 3);
        t.refused("25 the deny ahead of what a has, and who has b", against(2), "relate", 0, 0, 3);

        Story u = withRelation(3);
        u.does("relation", 3);
        u.does("deny", 0, 0, 1);
        u.due("25 a deny of another relation", 1, "relate", 1, 0, 1);
    }

    private static void relateDeniedGroups() {
        Story s = withRelation(5);
        s.does("deny", 0, 5, 4);
        s.does("relate", 0, 0, 5);
        s.does("deny", 0, 1, 0);
        s.refused("25 groups, the deny of both", against(2), "relate", 0, 0, 1);
        s.refused("25 groups, the deny of both, turned", against(2), "relate", 0, 1, 0);
        s.refused("25 groups, one of a's with b", against(0), "relate", 0, 0, 4);
        s.refused("25 groups, a with one of b's", against(0), "relate", 0, 4, 0);
        s.does("relate", 0, 1, 4);
        s.refused("25 groups, the first of several", against(0), "relate", 0, 1, 0);
        s.refused("25 groups, the first of several, turned", against(0), "relate", 0, 5, 1);
        s.due("25 groups, a third lets", 4, "relate", 0, 2, 3);
    }

    private static void relateByForm() {
        Story s = withRelation(0);
        s.does("relate", 0, 4, 5);
        s.does("relate", 0, 0, 1);
        s.refused("25 one to one, a has another", against(1), "relate", 0, 0, 2);
        s.refused("25 one to one, another has b", against(1), "relate", 0, 2, 1);
        s.refused("25 one to one, a has another ahead of another has b", against(1), "relate", 0, 0, 5);
        s.refused("25 one to one, that ahead, though later", against(0), "relate", 0, 4, 1);
        s.due("25 one to one, b has a", 2, "relate", 0, 1, 0);
        s.due("25 one to one, b has not yet", 3, "relate", 0, 2, 3);

        Story t = withRelation(1);
        t.does("relate", 0, 0, 1);
        t.due("25 one to many, a has more", 1, "relate", 0, 0, 2);
        t.refused("25 one to many, another has b", against(1), "relate", 0, 3, 2);
        t.refused("25 one to many, another has the first b", against(0), "relate", 0, 1 + 1, 1);
        t.due("25 one to many, b may have", 2, "relate", 0, 1, 0);

        Story u = withRelation(2);
        u.does("relate", 0, 0, 2);
        u.due("25 many to one, another has b, too", 1, "relate", 0, 1, 2);
        u.refused("25 many to one, a has another", against(1), "relate", 0, 1, 3);
        u.due("25 many to one, b may have", 2, "relate", 0, 2, 0);

        Story v = withRelation(3);
        v.does("relate", 0, 0, 2);
        v.due("25 any, a has more", 1, "relate", 0, 0, 3);
        v.due("25 any, another has b, too", 2, "relate", 0, 1, 2);

        Story w = withRelation(4);
        w.does("relate", 0, 0, 2);
        w.due("25 each other, a has more", 1, "relate", 0, 0, 3);
        w.due("25 each other, another has b, too", 2, "relate", 0, 1, 2);
        w.due("27 each other, b has both", 1, "related", 0, 2, 0);
        w.due("27 each other, b has both, the other", 1, "related", 0, 2, 1);
        w.due("27 each other, a has both", 1, "related", 0, 0, 2);
        w.due("27 each other, a has both, the other", 1, "related", 0, 0, 3);
    }

    private static void relateFull() {
        Story s = withRelation(0);
        s.does("relate", 0, 0, 1);
        s.does("deny", 0, 2, 3);
        s.sentences(299);
        s.due("25 the last sentence", 299, "relate", 0, 3, 4);
        s.refused("25 300 sentences at most", FULL, "relate", 0, 4, 5);
        s.refused("25 full ahead of the deny", FULL, "relate", 0, 2, 3);
        s.refused("25 full ahead of what a has", FULL, "relate", 0, 0, 2);
        s.refused("25 so already ahead of full", STATE, "relate", 0, 0, 1);
        s.refused("25 a is b ahead of full", STATE, "relate", 0, 4, 4);
        s.refused("25 unknown ahead of full", UNKNOWN, "relate", 1, 0, 1);
    }

    private static void deny() {
        for (int form = 0; form < 6; form++) {
            Story s = withRelation(form);
            String why = "26 form " + form;
            s.refused(why + ", a is b", STATE, "deny", 0, 3, 3);
            s.due(why, 0, "deny", 0, 0, 5);
            s.refused(why + ", it was denied already", STATE, "deny", 0, 0, 5);
            s.due(why + ", the other way round", 1, "deny", 0, 5, 0);
            s.due(why + ", by another relation", 2, "deny", s.does("relation", form), 0, 5);
        }
    }

    private static void denyAgainst() {
        for (int form = 0; form < 4; form++) {
            Story s = withRelation(form);
            String why = "26 form " + form;
            s.does("relate", 0, 4, 5);
            s.does("relate", 0, 0, 1);
            s.refused(why + ", the relate by which a has b", against(1), "deny", 0, 0, 1);
            s.due(why + ", b has not a", 2, "deny", 0, 1, 0);
        }
        Story s = withRelation(4);
        s.does("relate", 0, 4, 5);
        s.does("relate", 0, 0, 1);
        s.refused("26 each other", against(1), "deny", 0, 0, 1);
        s.refused("26 each other, turned", against(1), "deny", 0, 1, 0);
        s.due("26 each other, none", 2, "deny", 0, 0, 4);
        s.refused("26 each other, the sentence 0", against(0), "deny", 0, 4, 5);
        s.refused("26 each other, the sentence 0, turned", against(0), "deny", 0, 5, 4);

        Story t = withRelation(3);
        t.does("relate", 0, 1, 0);
        t.does("relate", 0, 0, 1);
        t.refused("26 this way round, though the other came first", against(1), "deny", 0, 0, 1);
    }

    private static void denyGroups() {
        Story s = withRelation(5);
        s.does("relate", 0, 0, 1);
        s.does("relate", 0, 2, 3);
        s.does("relate", 0, 4, 3);
        s.due("26 groups, not together yet", 3, "deny", 0, 5, 0);
        s.does("relate", 0, 3, 1);
        s.refused("26 groups, with which they came together", against(4), "deny", 0, 0, 4);
        s.refused("26 groups, turned", against(4), "deny", 0, 4, 0);
        s.refused("26 groups, that told of them", against(4), "deny", 0, 1, 3);
        s.refused("26 groups, the earlier one", against(2), "deny", 0, 2, 4);
        s.refused("26 groups, the first one", against(0), "deny", 0, 1, 0);
        s.refused("26 groups, denied already ahead of all", STATE, "deny", 0, 5, 0);

        Story t = withRelation(5);
        t.does("relation", 5);
        t.does("put", 0, 1);
        t.does("relate", 1, 0, 1);
        t.does("relate", 0, 1, 2);
        t.does("relate", 0, 0, 2);
        t.refused("26 groups of another relation do not count", against(3), "deny", 0, 0, 1);
        t.refused("26 groups of the other relation", against(1), "deny", 1, 1, 0);
        t.due("26 groups that are apart in the other relation", 4, "deny", 1, 0, 2);
    }

    private static void denyFull() {
        Story s = withRelation(3);
        s.does("relate", 0, 0, 1);
        s.does("deny", 0, 2, 3);
        s.sentences(299);
        s.due("26 the last sentence", 299, "deny", 0, 3, 2);
        s.refused("26 300 sentences at most", FULL, "deny", 0, 4, 5);
        s.refused("26 full ahead of against", FULL, "deny", 0, 0, 1);
        s.refused("26 denied already ahead of full", STATE, "deny", 0, 3, 2);
        s.refused("26 a is b ahead of full", STATE, "deny", 0, 4, 4);
        s.refused("26 unknown ahead of full", UNKNOWN, "deny", 0, 6, 1);
    }

    private static void related() {
        for (int form = 0; form < 6; form++) {
            Story s = withRelation(form);
            String why = "27 form " + form;
            s.due(why + ", a is b", form == 5 ? 1 : 0, "related", 0, 2, 2);
            s.due(why + ", none", 0, "related", 0, 0, 5);
            s.does("relate", 0, 0, 5);
            s.due(why + ", a has b", 1, "related", 0, 0, 5);
            s.due(why + ", b has a", form >= 4 ? 1 : 0, "related", 0, 5, 0);
            s.due(why + ", a is b of one that has", form == 5 ? 1 : 0, "related", 0, 0, 0);
            s.does("relate", 0, 5, 3);
            s.due(why + ", at the second hand", form == 5 ? 1 : 0, "related", 0, 0, 3);
            int more = s.does("thing", THING, 0);
            s.due(why + ", a later thing", form == 5 ? 1 : 0, "related", 0, more, more);
            s.due(why + ", a later thing has none", 0, "related", 0, more, 0);
        }
        Story s = story();
        for (int t = 0; t < 64; t++) {
            s.does("thing", THING, 0);
        }
        s.does("relation", 5);
        s.does("relate", 0, 63, 0);
        s.due("27 the last one", 1, "related", 0, 0, 63);
        s.due("27 not the one ahead of it", 0, "related", 0, 0, 62);
    }

    private static void along() {
        for (int form = 0; form < 6; form++) {
            Story s = withRelation(form);
            String why = "28 form " + form;
            s.due(why + ", a is b", 0, "along", 0, 3, 3);
            s.due(why + ", none", NONE, "along", 0, 0, 1);
            s.does("relate", 0, 0, 1);
            s.does("relate", 0, 1, 2);
            s.due(why + ", one step", 1, "along", 0, 0, 1);
            s.due(why + ", two steps", form == 5 ? 1 : 2, "along", 0, 0, 2);
            s.due(why + ", back", form == 5 ? 1 : form == 4 ? 2 : NONE, "along", 0, 2, 0);
            s.due(why + ", a is b, though it could walk", 0, "along", 0, 0, 0);
            s.due(why + ", from one that has none", NONE, "along", 0, 5, 2);
        }
        Story s = story();
        for (int t = 0; t < 64; t++) {
            s.does("thing", THING, 0);
        }
        s.does("relation", 3);
        for (int t = 63; t > 0; t--) {
            s.does("relate", 0, t, t - 1);
        }
        s.due("28 the most steps there can be", 63, "along", 0, 63, 0);
        s.due("29 the most steps there can be", 62, "next", 0, 63, 0);
        s.due("28 all the way back", NONE, "along", 0, 0, 63);
    }

    private static void next() {
        Story s = withRelation(3);
        s.due("29 a is b", NONE, "next", 0, 0, 0);
        s.due("29 there is none", NONE, "next", 0, 0, 5);
        s.does("relate", 0, 0, 4);
        s.does("relate", 0, 4, 5);
        s.due("29 the only way", 4, "next", 0, 0, 5);
        s.does("relate", 0, 0, 3);
        s.does("relate", 0, 3, 5);
        s.due("29 the least, though told later", 3, "next", 0, 0, 5);
        s.does("relate", 0, 0, 1);
        s.does("relate", 0, 1, 2);
        s.does("relate", 0, 2, 5);
        s.due("29 not on a longer way, though less", 3, "next", 0, 0, 5);
        s.does("relate", 0, 5, 0);
        s.due("29 a is b, though it could walk round", NONE, "next", 0, 0, 0);
        s.due("29 the thing 0", 0, "next", 0, 5, 3);
        s.does("relate", 0, 0, 5);
        s.due("29 b itself", 5, "next", 0, 0, 5);

        Story t = withRelation(5);
        t.does("relate", 0, 4, 2);
        t.does("relate", 0, 2, 0);
        t.due("29 groups, b itself", 4, "next", 0, 0, 4);
        t.due("29 groups, a is b", NONE, "next", 0, 4, 4);
        t.due("29 groups, not together", NONE, "next", 0, 4, 5);
    }
}
