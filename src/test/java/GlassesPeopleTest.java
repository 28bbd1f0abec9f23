/** Promises 1 to 13: a new object, glasses, people, the hour. */
public final class GlassesPeopleTest {
    public static void main(String[] args) {
        newObject();
        glass();
        glassErrors();
        throwsByTurn();
        throwsByKind();
        become();
        as();
        spinAndHang();
        person();
        standAndPay();
        hour();
        Due.end();
    }

    private static void newObject() {
        GlassTax x = new GlassTax();
        int[] first = {0, 0, 0, 0, 0, 0, 1};
        for (int i = 0; i < first.length; i++) {
            Due.is("new count " + i, x.count(i), first[i]);
        }
        Due.is("new untell 0", x.untell(0), 0);
        Due.is("new untell 1", x.untell(1), 0);
        Due.is("new check", x.check(), 0);
        Due.is("new restore", x.restore(), Due.NONE);
        Due.is("new body", x.body(0), Due.NONE);
        for (int i = 0; i < 4; i++) {
            Due.is("new sheet " + i, x.judge(i), Due.NONE);
        }
        Due.is("new glassIs", x.glassIs(0, 0), Due.BEYOND);
        Due.is("new personIs", x.personIs(0, 0), Due.BEYOND);
        Due.is("new told", x.told(2), 6);
        Due.is("new told", x.told(1), 2);
    }

    private static void glass() {
        GlassTax x = new GlassTax();
        Due.is("glass", x.glass(69, 63, 3), 0);
        Due.is("glass", x.glass(0, 0, 0), 1);
        int[] is = {6, 9, 63, 3, 0};
        for (int i = 0; i < is.length; i++) {
            Due.is("glassIs(0, " + i + ")", x.glassIs(0, i), is[i]);
        }
        Due.is("glassIs(1, 0)", x.glassIs(1, 0), 0);
        Due.is("glassIs(1, 2)", x.glassIs(1, 2), 0);
        Due.is("glassIs(2, 0)", x.glassIs(2, 0), Due.BEYOND);
        Due.is("glassIs(0, 5)", x.glassIs(0, 5), Due.BEYOND);
        Due.is("glassIs(0, -1)", x.glassIs(0, -1), Due.BEYOND);
        Due.is("glassIs(-1, 0)", x.glassIs(-1, 0), Due.BEYOND);
        Due.is("count", x.count(0), 2);
    }

    private static void glassErrors() {
        GlassTax x = new GlassTax();
        Due.is("km 70", x.glass(70, 0, 0), Due.BEYOND);
        Due.is("km -1", x.glass(-1, 0, 0), Due.BEYOND);
        Due.is("cell -1", x.glass(0, -1, 0), Due.BEYOND);
        Due.is("cell 64", x.glass(0, 64, 0), Due.BEYOND);
        Due.is("turn -1", x.glass(0, 0, -1), Due.BEYOND);
        Due.is("turn 4", x.glass(0, 0, 4), Due.BEYOND);
        for (int i = 0; i < 8; i++) {
            Due.is("glass " + i, x.glass(i, 3 * i, 0), i);
            Due.is("there is one", x.glass(i, 3 * i, 0), i == 7 ? Due.FULL : Due.STATE);
        }
        Due.is("full", x.glass(0, 1, 0), Due.FULL);
        Due.is("full, and there is one", x.glass(0, 3, 0), Due.FULL);
        Due.is("beyond ahead of full", x.glass(0, 1, 4), Due.BEYOND);
        Due.is("told STATE", x.told(3), 7);
        Due.is("told FULL", x.told(4), 3);
    }

    private static void throwsByTurn() {
        int[][] onward = {{1, 0, 3, 2}, {3, 2, 1, 0}, {0, 3, 2, 1}, {2, 1, 0, 3}};
        for (int turn = 0; turn < 4; turn++) {
            GlassTax x = new GlassTax();
            x.glass(0, 9, turn);
            for (int way = 0; way < 4; way++) {
                Due.is("GLASS turn " + turn + " way " + way, x.throwsOn(0, way), onward[turn][way]);
                GlassTax y = new GlassTax();
                y.glass(10, 9, turn);
                Due.is("SPOON turn " + turn + " way " + way, y.throwsOn(0, way), way < 2 ? onward[turn][way] : way);
            }
        }
        GlassTax x = new GlassTax();
        x.glass(0, 9, 0);
        Due.is("way 4", x.throwsOn(0, 4), Due.BEYOND);
        Due.is("way -1", x.throwsOn(0, -1), Due.BEYOND);
        Due.is("glass 1", x.throwsOn(1, 0), Due.BEYOND);
        Due.is("glass -1", x.throwsOn(-1, 0), Due.BEYOND);
    }

    private static void throwsByKind() {
        int[] hours = {0, 5, 6, 17, 18, 23, 24 + 5, 24 + 6, 9999};
        boolean[] night = {true, true, false, false, true, true, true, false, false};
        GlassTax x = new GlassTax();
        x.glass(20, 0, 0);
        x.glass(30, 1, 0);
        x.glass(40, 2, 0);
        x.glass(40, 3, 3);
        x.glass(54, 4, 0);
        x.glass(55, 5, 0);
        x.glass(60, 6, 0);
        int[] lake = {2, 3, 0, 1};
        int[] bowl = {3, 2, 3, 2};
        int[] bowlTurned = {0, 3, 3, 2};
        for (int i = 0; i < hours.length; i++) {
            x.hour(hours[i]);
            for (int w = 0; w < 4; w++) {
                String call = " hour " + hours[i] + " way " + w;
                Due.is("PANE" + call, x.throwsOn(0, w), night[i] ? w ^ 1 : w);
                Due.is("LAKE" + call, x.throwsOn(1, w), lake[w]);
                Due.is("BOWL" + call, x.throwsOn(2, w), bowl[w]);
                Due.is("BOWL turned" + call, x.throwsOn(3, w), bowlTurned[w]);
                Due.is("LAMPED 4" + call, x.throwsOn(4, w), night[i] ? w ^ 1 : w);
                Due.is("LAMPED 5" + call, x.throwsOn(5, w), night[i] ? w ^ 1 : lake[w]);
                Due.is("SILVERED" + call, x.throwsOn(6, w), w ^ 1);
            }
        }
        silvered();
    }

    private static void silvered() {
        GlassTax x = new GlassTax();
        x.glass(61, 2, 0);
        x.person(0, 1);
        x.hours(1);
        Due.is("SEEN 1, m 1", x.throwsOn(0, 1), 0);
        x.hours(1);
        Due.is("SEEN 2, m 1", x.throwsOn(0, 1), -1);
        Due.is("it ENDS there", x.look(0, 1, 0), 2);
        Due.is("and MEETS it", x.look(0, 1, 2), 1);
        Due.is("and costs", x.look(0, 1, 3), 1);
        Due.is("from it, it does not matter", x.look(2, 1, 0), 7);
        x.hours(1);
        Due.is("SEEN goes on", x.glassIs(0, 4), 3);
        x.become(0, 63);
        Due.is("m 3", x.throwsOn(0, 1), 0);
        x.become(0, 62);
        Due.is("m 2", x.throwsOn(0, 1), -1);
        x.become(0, 0);
        Due.is("GLASS, SEEN", x.throwsOn(0, 1), 0);
        Due.is("SEEN stays", x.glassIs(0, 4), 3);
    }

    private static void become() {
        GlassTax x = new GlassTax();
        x.glass(35, 7, 2);
        Due.is("become", x.become(0, 69), 3);
        Due.is("become", x.become(0, 4), 6);
        Due.is("KIND", x.glassIs(0, 0), 0);
        Due.is("m", x.glassIs(0, 1), 4);
        Due.is("CELL", x.glassIs(0, 2), 7);
        Due.is("TURN", x.glassIs(0, 3), 2);
        Due.is("km 70", x.become(0, 70), Due.BEYOND);
        Due.is("km -1", x.become(0, -1), Due.BEYOND);
        Due.is("glass 1", x.become(1, 0), Due.BEYOND);
        Due.is("still", x.glassIs(0, 0), 0);
    }

    private static void as() {
        boolean[][] under = new boolean[7][7];
        int[] above = {-1, 0, 0, 0, 1, 2, 0};
        for (int k = 0; k < 7; k++) {
            for (int of = k; of >= 0; of = above[of]) {
                under[k][of] = true;
            }
        }
        GlassTax x = new GlassTax();
        x.glass(0, 0, 0);
        for (int k = 0; k < 7; k++) {
            x.become(0, 10 * k + k + 1);
            for (int as = 0; as < 7; as++) {
                Due.is("kind " + k + " as " + as, x.as(0, as), under[k][as] ? k + 1 : Due.KIND);
            }
        }
        Due.is("kind 7", x.as(0, 7), Due.BEYOND);
        Due.is("kind -1", x.as(0, -1), Due.BEYOND);
        Due.is("glass 1", x.as(1, 0), Due.BEYOND);
        Due.is("told KIND", x.told(5), 49 - 7 - 6 - 2);
    }

    private static void spinAndHang() {
        GlassTax x = new GlassTax();
        x.glass(0, 7, 2);
        x.glass(0, 8, 1);
        Due.is("spin", x.spin(0, 3), 2);
        Due.is("spin", x.spin(0, 0), 3);
        Due.is("spin 4", x.spin(0, 4), Due.BEYOND);
        Due.is("spin -1", x.spin(0, -1), Due.BEYOND);
        Due.is("spin of 2", x.spin(2, 0), Due.BEYOND);
        Due.is("TURN", x.glassIs(0, 3), 0);
        Due.is("hang, own cell", x.hang(0, 7), 7);
        Due.is("hang, another there", x.hang(0, 8), Due.STATE);
        Due.is("hang, the first there", x.hang(1, 7), Due.STATE);
        Due.is("hang", x.hang(0, 63), 7);
        Due.is("hang", x.hang(1, 7), 8);
        Due.is("CELL", x.glassIs(0, 2), 63);
        Due.is("hang 64", x.hang(0, 64), Due.BEYOND);
        Due.is("hang -1", x.hang(0, -1), Due.BEYOND);
        Due.is("hang of 2", x.hang(2, 0), Due.BEYOND);
        Due.is("free again", x.glass(0, 8, 0), 2);
        Due.is("looks go by where they hang", x.look(5, 1, 2), 2);
        Due.is("looks go by where they hang", x.look(5, 1, 0), 56);
        x.hang(2, 20);
        Due.is("and not where one hung", x.look(0, 2, 2), 0);
    }

    private static void person() {
        GlassTax x = new GlassTax();
        Due.is("cell 64", x.person(64, 0), Due.BEYOND);
        Due.is("cell -1", x.person(-1, 0), Due.BEYOND);
        Due.is("way 4", x.person(0, 4), Due.BEYOND);
        Due.is("way -1", x.person(0, -1), Due.BEYOND);
        for (int i = 0; i < 6; i++) {
            Due.is("person", x.person(63, 3), i);
        }
        Due.is("full", x.person(0, 0), Due.FULL);
        Due.is("beyond ahead of full", x.person(0, 4), Due.BEYOND);
        Due.is("count", x.count(1), 6);
        Due.is("CELL", x.personIs(5, 0), 63);
        Due.is("WAY", x.personIs(5, 1), 3);
        Due.is("OWES", x.personIs(5, 2), 0);
        Due.is("DUE", x.personIs(5, 3), 0);
        Due.is("what 4", x.personIs(5, 4), Due.BEYOND);
        Due.is("what -1", x.personIs(5, -1), Due.BEYOND);
        Due.is("person 6", x.personIs(6, 0), Due.BEYOND);
        x.glass(37, 62, 0);
        Due.is("DUE by a lake", x.personIs(5, 3), 7);
        Due.text(x, 1, "t*10+h+p*100");
        x.hour(24 + 7);
        Due.is("DUE by a TEXT", x.personIs(5, 3), 577);
        Due.is("DUE by a TEXT of another", x.personIs(0, 3), 77);
        Due.is("OWES still", x.personIs(5, 2), 0);
    }

    private static void standAndPay() {
        GlassTax x = new GlassTax();
        x.person(9, 2);
        Due.is("stand", x.stand(0, 63, 3), 38);
        Due.is("stand", x.stand(0, 0, 1), 255);
        Due.is("cell 64", x.stand(0, 64, 3), Due.BEYOND);
        Due.is("way 4", x.stand(0, 0, 4), Due.BEYOND);
        Due.is("person 1", x.stand(1, 0, 0), Due.BEYOND);
        Due.is("CELL", x.personIs(0, 0), 0);
        Due.is("WAY", x.personIs(0, 1), 1);
        x.glass(38, 1, 0);
        x.hours(3);
        Due.is("OWES", x.personIs(0, 2), 24);
        Due.is("pay 0", x.pay(0, 0), 0);
        Due.is("pay", x.pay(0, 20), 20);
        Due.is("pay more", x.pay(0, 99999), 4);
        Due.is("pay none", x.pay(0, 5), 0);
        Due.is("pay 100000", x.pay(0, 100000), Due.BEYOND);
        Due.is("pay -1", x.pay(0, -1), Due.BEYOND);
        Due.is("pay of 1", x.pay(1, 0), Due.BEYOND);
    }

    private static void hour() {
        GlassTax x = new GlassTax();
        Due.is("hour", x.hour(9999), 0);
        Due.is("hour", x.hour(0), 9999);
        Due.is("hour 10000", x.hour(10000), Due.BEYOND);
        Due.is("hour -1", x.hour(-1), Due.BEYOND);
        Due.is("HOUR", x.count(2), 0);
    }
}
