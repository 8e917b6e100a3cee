/** Promises 1 to 5: a new object, count, dawn, build, site. */
public final class BuildingsTest {
    private static final Due DUE = new Due("BuildingsTest");

    public static void main(String[] args) {
        newObject();
        count();
        dawn();
        build();
        buildRefuses();
        site();
        DUE.end();
    }

    private static void newObject() {
        StonesChoose x = new StonesChoose();
        DUE.is("1 count(0)", x.count(0), 0);
        DUE.is("1 count(1)", x.count(1), 0);
        DUE.is("1 count(2)", x.count(2), 0);
        DUE.is("1 count(3)", x.count(3), 1);
        DUE.is("1 count(4)", x.count(4), 0);
        DUE.is("1 count(5)", x.count(5), 0);
        for (int b = 0; b < 5; b++) {
            DUE.is("1 site place", x.site(b, 0), 20 * b);
            DUE.is("1 site room", x.site(b, 1), 1);
            DUE.is("1 site vain", x.site(b, 2), 0);
            DUE.is("1 site built", x.site(b, 3), 0);
            DUE.is("1 site bits", x.site(b, 4), 0);
        }
        for (int s = 0; s < 4; s++) {
            DUE.is("1 sheet is missing", x.cell(s, 0, 0), -11);
        }
        DUE.is("1 no image", x.back(), -3);
        DUE.is("1 two objects are apart", x.stone(0, 0, 0), 0);
        DUE.is("1 two objects are apart", new StonesChoose().count(0), 0);
    }

    private static void count() {
        StonesChoose x = new StonesChoose();
        DUE.is("2 below", x.count(-1), -2);
        DUE.is("2 above", x.count(6), -2);
        x.stone(0, 0, 5);
        x.stone(0, 50, 5);
        x.dawn(33);
        DUE.is("2 stones", x.count(0), 2);
        DUE.is("2 year", x.count(1), 33);
        DUE.is("2 in none", x.count(2), 2);
        x.year();
        DUE.is("2 in none, one is in", x.count(2), 1);
        DUE.is("2 year", x.count(1), 34);
        DUE.is("2 a text", Due.text(x, "likes 1; wants 2; goes 3;"), 1);
        DUE.is("2 texts", x.count(3), 2);
        DUE.is("2 the law", x.count(4), 0);
        x.force(1);
        DUE.is("2 the law", x.count(4), 1);
        x.feed(3, 1, 2, 3, 4, 5);
        DUE.is("2 the tape", x.count(5), 3);
    }

    private static void dawn() {
        StonesChoose x = new StonesChoose();
        DUE.is("3 below", x.dawn(-1), -2);
        DUE.is("3 above", x.dawn(1000), -2);
        DUE.is("3 nothing changed", x.count(1), 0);
        DUE.is("3 was", x.dawn(999), 0);
        DUE.is("3 becomes", x.count(1), 999);
        DUE.is("3 was", x.dawn(0), 999);
        DUE.is("3 becomes", x.count(1), 0);
    }

    private static void build() {
        StonesChoose x = new StonesChoose();
        DUE.is("4 place was", x.build(3, 0, 99), 60);
        DUE.is("4 place", x.site(3, 0), 99);
        DUE.is("4 place 0", x.build(3, 0, 0), 99);
        DUE.is("4 room was", x.build(2, 1, 5), 1);
        DUE.is("4 room", x.site(2, 1), 5);
        DUE.is("4 room 0", x.build(2, 1, 0), 5);
        DUE.is("4 room", x.site(2, 1), 0);
        DUE.is("4 vain was", x.build(0, 2, 99), 0);
        DUE.is("4 vain was", x.build(0, 2, 7), 99);
        DUE.is("4 vain", x.site(0, 2), 7);
        DUE.is("4 built was", x.build(4, 3, 99), 0);
        DUE.is("4 built was", x.build(4, 3, 8), 99);
        DUE.is("4 built", x.site(4, 3), 8);
        DUE.is("4 no other", x.site(1, 0), 20);
        DUE.is("4 no other", x.site(1, 1), 1);
        DUE.is("4 no other", x.site(1, 2), 0);
        DUE.is("4 no other", x.site(1, 3), 0);
        comesAlong();
    }

    private static void comesAlong() {
        StonesChoose x = new StonesChoose();
        x.build(1, 1, 3);
        x.stone(0, 20, 5);
        x.stone(0, 20, 5);
        DUE.is("4 both come in", x.year(), 3);
        x.stone(0, 20, 5);
        DUE.is("4 place", x.build(1, 0, 70), 20);
        DUE.is("4 comes along", x.told(0, 0), 70);
        DUE.is("4 comes along", x.told(1, 0), 70);
        DUE.is("4 one beside does not", x.told(2, 0), 20);
        DUE.is("4 still in it", x.told(0, 2), 1);
        DUE.is("4 room as many as are in it", x.build(1, 1, 2), 3);
        DUE.is("4 room less than are in it", x.build(1, 1, 1), -7);
        DUE.is("4 nothing changed", x.site(1, 1), 2);
        DUE.is("4 vain less than are in it", x.build(1, 2, 0), 0);
        DUE.is("4 other rooms at will", x.build(0, 1, 0), 1);
    }

    private static void buildRefuses() {
        StonesChoose x = new StonesChoose();
        DUE.is("4 building below", x.build(-1, 0, 5), -5);
        DUE.is("4 building above", x.build(5, 0, 5), -5);
        DUE.is("4 building ahead of what", x.build(5, 9, 500), -5);
        DUE.is("4 what below", x.build(0, -1, 5), -7);
        DUE.is("4 what above", x.build(0, 4, 5), -7);
        DUE.is("4 place below", x.build(1, 0, -1), -7);
        DUE.is("4 place above", x.build(1, 0, 100), -7);
        DUE.is("4 room below", x.build(1, 1, -1), -7);
        DUE.is("4 room above", x.build(1, 1, 6), -7);
        DUE.is("4 vain below", x.build(1, 2, -1), -7);
        DUE.is("4 vain above", x.build(1, 2, 100), -7);
        DUE.is("4 built below", x.build(1, 3, -1), -7);
        DUE.is("4 built above", x.build(1, 3, 100), -7);
        DUE.is("4 nothing changed", x.site(1, 0), 20);
        DUE.is("4 nothing changed", x.site(1, 1), 1);
        DUE.is("4 nothing changed", x.site(1, 2), 0);
        DUE.is("4 nothing changed", x.site(1, 3), 0);
    }

    private static void site() {
        StonesChoose x = new StonesChoose();
        DUE.is("5 building below", x.site(-1, 0), -5);
        DUE.is("5 building above", x.site(5, 0), -5);
        DUE.is("5 building ahead of what", x.site(5, 5), -5);
        DUE.is("5 what below", x.site(0, -1), -7);
        DUE.is("5 what above", x.site(0, 5), -7);
        x.build(2, 1, 5);
        x.stone(0, 0, 5);
        x.stone(0, 40, 5);
        x.stone(0, 40, 5);
        x.year();
        DUE.is("5 bits", x.site(0, 4), 1);
        DUE.is("5 bits", x.site(2, 4), 6);
        DUE.is("5 bits", x.site(1, 4), 0);
        DUE.is("5 built by two", x.site(2, 3), 2);
        DUE.is("5 room", x.site(2, 1), 5);
    }
}
