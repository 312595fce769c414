/** What the description says of texts and their faults. */
final class TextSentences extends Sentences {
    static void test() {
        promise(0);
        pad();
        programs();
        steps();
        ticks();
        spins();
        pours();
        numbers();
        ranges();
        faults();
        lengths();
    }

    /** A text of 57 characters and the last three for which the pad has room. */
    private static String nineteenTicksAnd(String last) {
        return "t1,t1,t1,t1,t1,t1,t1,t1,t1,t1,t1,t1,t1,t1,t1,t1,t1,t1,t1," + last;
    }

    private static void pad() {
        of("The pad is a text of at most 60 characters, from which a program is read:");
        DyeTank x = new DyeTank();
        due("empty at first", 0, x.state(5));
        say(x, nineteenTicksAnd("t21"));
        due("sixty characters", 60, x.state(5));
        due("no more", TOO_MANY, x.say('0'));
        due("which are a program", NONE, x.fault());
        due("of twenty steps", 20, x.carryOut());
        due("with the last character too", 40, x.state(0));
    }

    private static void programs() {
        of("program = step { \",\" step }");
        dueCorrect("t1", "t1,t2", "t1,t2,t3", "t1,v0:0,da^0:0=1,t1");
        dueFault("", 0);
        dueFault(",", 0);
        dueFault(",t1", 0);
        dueFault("t1,", 3);
        dueFault("t1,,t1", 3);
        dueFault("t1t1", 2);
        dueFault("t1;t1", 2);
        dueFault("t1,t1,", 6);
        dueFault("v0:0,x", 5);
        dueFault("da^0:0=1d", 8);
    }

    private static void steps() {
        of("step = \"t\" number | \"v\" number \":\" [ \"-\" ] number | \"d\" colour layer number \":\" number \"=\" number");
        dueCorrect("t7", "v7:7", "v7:-7", "db_7:7=7");
        String[] others = {"s1", "u1", "w1", "c1", "e1", "T1", "V0:0", "1", "-", "x"};
        for (String text : others) {
            dueFault(text, 0);
        }
        dueFault("t", 1);
        dueFault("t-1", 1);
        dueFault("v", 1);
        dueFault("v:", 1);
        dueFault("v-1:0", 1);
        dueFault("v1", 2);
        dueFault("v1=", 2);
        dueFault("v1:", 3);
        dueFault("v1:+1", 3);
        dueFault("v1:-", 4);
        dueFault("v1:--1", 4);
        dueFault("v1:-,", 4);
        dueFault("d", 1);
        dueFault("da", 2);
        dueFault("da^", 3);
        dueFault("da^-1", 3);
        dueFault("da^1", 4);
        dueFault("da^1=", 4);
        dueFault("da^1:", 5);
        dueFault("da^1:-", 5);
        dueFault("da^1:2", 6);
        dueFault("da^1:2:", 6);
        dueFault("da^1:2=", 7);
        dueFault("da^1:2=-", 7);
        dueFault("v:0", 1);
        dueFault("v1:,", 3);
        dueFault("da^:2=3", 3);
        dueFault("da^1:=3", 5);
        dueFault("da^1:2=,", 7);
        of("colour = \"a\" | \"b\" | \"c\"");
        dueCorrect("da^1:2=3", "db^1:2=3", "dc^1:2=3");
        dueFault("d`^1:2=3", 1);
        dueFault("dd^1:2=3", 1);
        dueFault("dA^1:2=3", 1);
        dueFault("d^1:2=3", 1);
        dueFault("daa", 2);
        of("layer = \"^\" | \"_\"");
        dueCorrect("da^1:2=3", "da_1:2=3");
        dueFault("da]1:2=3", 2);
        dueFault("da`1:2=3", 2);
        dueFault("da1:2=3", 2);
        dueFault("da^_", 3);
    }

    private static void ticks() {
        of("where \"t\" stands for tick() (1 to 999 ticks),");
        dueCorrect("t1", "t9", "t10", "t99", "t100", "t999");
        dueFault("t0", 1);
        dueFault("t1000", 4);
        dueFault("t9990", 4);
        dueFault("t/", 1);
        dueFault("t:", 1);
        DyeTank x = new DyeTank();
        say(x, "t999,t1");
        due("two steps", 2, x.carryOut());
        due("a thousand ticks", 1000, x.state(0));
    }

    private static void spins() {
        of("\"v\" for spin() with a ring (0 to 11) and a velocity (0 to 1500 with its sign, \"-0\" is 0),");
        dueCorrect("v0:0", "v9:1", "v10:9", "v11:10", "v0:99", "v0:100", "v0:999", "v0:1000", "v0:1499", "v0:1500");
        dueCorrect("v0:-0", "v0:-1", "v0:-9", "v0:-1499", "v0:-1500");
        dueFault("v12:0", 2);
        dueFault("v19:0", 2);
        dueFault("v20:0", 2);
        dueFault("v110:0", 3);
        dueFault("v0:1501", 6);
        dueFault("v0:1509", 6);
        dueFault("v0:1510", 6);
        dueFault("v0:1600", 6);
        dueFault("v0:2000", 6);
        dueFault("v0:15000", 7);
        dueFault("v0:-1501", 7);
        dueFault("v0:-2000", 7);
        DyeTank x = new DyeTank();
        x.spin(2, 5);
        x.spin(3, 5);
        say(x, "v0:1500,v1:-1500,v2:0,v3:-0,v5:-1");
        due("five steps", 5, x.carryOut());
        int[] velocities = {1500, -1500, 0, 0, 0, -1};
        for (int ring = 0; ring < 6; ring++) {
            due("the velocity of " + ring, velocities[ring], x.ring(ring, 0));
        }
        x.setUp(12);
        say(x, "v10:10,v11:11");
        due("two rings of two digits", 2, x.carryOut());
        due("the ring 10", 10, x.ring(10, 0));
        due("the ring 11", 11, x.ring(11, 0));
    }

    private static void pours() {
        of("and \"d\" for pour() with a colour (a for 0), a layer (\"^\" for TOP), a ring (0 to 11), a sector (0 to 23) and an "
                + "amount (1 to 999999).");
        dueCorrect("da^0:0=1", "da^9:9=9", "da^10:10=10", "da^11:23=999999", "da^1:19=100000", "da^1:20=99999");
        dueFault("da^12:0=1", 4);
        dueFault("da^20:0=1", 4);
        dueFault("da^0:24=1", 6);
        dueFault("da^0:29=1", 6);
        dueFault("da^0:30=1", 6);
        dueFault("da^0:230=1", 7);
        dueFault("da^0:0=0", 7);
        dueFault("da^0:0=1000000", 13);
        dueFault("da^0:0=9999990", 13);
        DyeTank x = new DyeTank();
        x.setUp(12);
        say(x, "da^0:0=1,db_11:23=999999,dc^10:9=70,da_1:2=30");
        due("four steps", 4, x.carryOut());
        due("a is 0, ^ is TOP", 1, x.dye(0, TOP, 0, 0));
        due("b is 1, _ is BOTTOM", 999999, x.dye(1, BOTTOM, 11, 23));
        due("c is 2", 70, x.dye(2, TOP, 10, 9));
        due("_ of a", 30, x.dye(0, BOTTOM, 1, 2));
    }

    private static void numbers() {
        of("Numbers have no leading zeros;");
        dueFault("t01", 1);
        dueFault("v00:0", 2);
        dueFault("v01:0", 2);
        dueFault("v1:00", 4);
        dueFault("v1:01", 4);
        dueFault("v1:-00", 5);
        dueFault("v1:-01", 5);
        dueFault("da^00:0=1", 4);
        dueFault("da^01:0=1", 4);
        dueFault("da^0:00=1", 6);
        dueFault("da^0:01=1", 6);
        dueFault("da^0:0=01", 7);
        dueCorrect("t100", "v10:1000", "da^10:20=100");
    }

    private static void ranges() {
        of("their ranges belong to what is correct, how many rings the tank has does not.");
        DyeTank x = new DyeTank();
        x.setUp(2);
        say(x, "t1,v11:5");
        due("a ring that the tank does not have is correct", NONE, x.fault());
        due("but its step fails", 1, x.carryOut());
        say(x, "da^11:5=7");
        due("a ring for dye that the tank does not have", NONE, x.fault());
        due("its step fails too", 0, x.carryOut());
        x.setUp(12);
        say(x, "v12:5");
        due("a ring that no tank has", 2, x.fault());
        due("is not carried out", BAD_TEXT, x.carryOut());
        say(x, "t0");
        due("no ticks", BAD_TEXT, x.carryOut());
    }

    private static void faults() {
        of("The fault of a text that is not correct is the index of the first character with which, after all characters before "
                + "it, no correct text can begin;");
        dueFault("x", 0);
        dueFault("t1,v1:1600,x", 9);
        dueFault("v12", 2);
        dueFault("v0:1501", 6);
        dueFault("da^1:24", 6);
        dueFault("da^1:240=0", 6);
        dueFault("t1,t2,d0", 7);
        dueFault("tt", 1);
        of("if there is no such character, it is the length of the text.");
        dueFault("", 0);
        dueFault("t", 1);
        dueFault("t1,", 3);
        dueFault("v1", 2);
        dueFault("v11:-", 5);
        dueFault("da^1:2", 6);
        dueFault("da^1:23=", 8);
        dueFault("t1,t2,v", 7);
    }

    private static void lengths() {
        of("(The greatest length of the text does not matter for this.)");
        dueFault(nineteenTicksAnd("t1,"), 60);
        dueFault(nineteenTicksAnd("dab"), 59);
        dueFault(nineteenTicksAnd("db_"), 60);
        dueFault(nineteenTicksAnd("v0:"), 60);
        dueCorrect(nineteenTicksAnd("t10"));
        due("a step of which only the letter has room", 60, faultOf("v0:0," + nineteenTicksAnd("").substring(3) + "t"));
    }
}
