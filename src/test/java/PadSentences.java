import java.util.List;

/** The promises 19 to 24: the calls of the pad and of the slots. */
final class PadSentences extends Sentences {
    static void test() {
        say();
        wipe();
        fault();
        carryOut();
        carryOutAnswers();
        save();
        restore();
    }

    private static void say() {
        promise(19);
        of("Appends a character to the pad.");
        DyeTank x = new DyeTank();
        x.say('t');
        x.say('2');
        x.say('1');
        due("t21", 1, x.carryOut());
        due("in the order in which it was said", 21, x.state(0));
        of("- `character`: its code, 33 to 126");
        x = new DyeTank();
        for (int character = 33; character <= 126; character++) {
            x.wipe();
            due("say(" + character + ")", 1, x.say(character));
        }
        of("Returns the length of the pad then;");
        x.wipe();
        for (int length = 1; length <= 60; length++) {
            due("characters", length, x.say('t'));
        }
        of("BAD_VALUE if the code is out of range;");
        x.wipe();
        for (int character : new int[] {32, 127, 0, -1, 10, 128, 256 + 't', 65536 + 't', LEAST, GREATEST}) {
            due("say(" + character + ")", BAD_VALUE, x.say(character));
        }
        due("nothing was said", 0, x.state(5));
        of("TOO_MANY if the pad has 60 characters.");
        for (int length = 1; length <= 59; length++) {
            x.say('t');
        }
        due("the sixtieth", 60, x.say('t'));
        due("a sixty-first", TOO_MANY, x.say('t'));
        due("sixty stay", 60, x.state(5));
        x.wipe();
        due("room again", 1, x.say('t'));
    }

    private static void wipe() {
        promise(20);
        of("Empties the pad.");
        DyeTank x = new DyeTank();
        say(x, "t1");
        x.wipe();
        due("its length", 0, x.state(5));
        due("its text", 0, x.fault());
        x.say('v');
        due("the new text alone", 1, x.fault());
        of("Returns the length that it had.");
        due("one", 1, x.wipe());
        due("an empty pad", 0, x.wipe());
        for (int length = 1; length <= 60; length++) {
            x.say('t');
        }
        due("a full pad", 60, x.wipe());
    }

    private static void fault() {
        promise(21);
        of("Returns the fault of the pad.");
        DyeTank x = new DyeTank();
        due("an empty pad", 0, x.fault());
        x.say('t');
        due("a number is missing", 1, x.fault());
        x.say('0');
        due("a wrong character", 1, x.fault());
        due("the pad stays", 2, x.state(5));
        for (int length = 3; length <= 60; length++) {
            x.say('1');
        }
        due("a full pad", 1, x.fault());
        of("Returns the fault, or NONE if the text is correct.");
        say(x, "t1");
        due("a correct text", NONE, x.fault());
        due("once more", NONE, x.fault());
        due("the pad stays", 2, x.state(5));
        due("nothing is carried out", 0, x.state(0));
        x.say(',');
        due("no longer correct", 3, x.fault());
        x.say('t');
        x.say('2');
        due("correct again", NONE, x.fault());
    }

    private static void carryOut() {
        promise(22);
        of("Carries out the steps of the pad one after the other until one of them fails, and empties the pad.");
        DyeTank x = still(3);
        say(x, "v0:9,t2,v0:4,t1,da^2:23=7");
        due("five steps", 5, x.carryOut());
        due("9 + 9 + 4", 22, x.ring(0, 2));
        due("the dye", 7, x.dye(0, TOP, 2, 23));
        due("the pad is empty", 0, x.state(5));
        say(x, "v2:10,v3:10,v1:10,t5");
        due("until the second one", 1, x.carryOut());
        due("not the third", 0, x.ring(1, 0));
        due("not the fourth", 3, x.state(0));
        due("the pad is empty then too", 0, x.state(5));
        due("the next text begins anew", 1, x.say('t'));
        of("(Those before it stay carried out; 0 is returned if the first one fails.)");
        due("the first one of before", 10, x.ring(2, 0));
        say(x, "v3:1,t1");
        due("the first one fails", 0, x.carryOut());
        due("no tick", 3, x.state(0));
        due("the pad is empty then too", 0, x.state(5));
        stepsThatFail();
    }

    private static void stepsThatFail() {
        DyeTank x = still(2);
        pourMost(x, 1, TOP, 0, 0);
        say(x, "da^0:0=1,db^0:0=1,dc^0:0=1");
        due("too much of a colour", 1, x.carryOut());
        due("the one before", 1, x.colour(0, 0));
        due("not the one behind", 0, x.colour(2, 0));
        say(x, "da_1:23=1,da_2:0=1,t1");
        due("dye for a ring that there is not", 1, x.carryOut());
        x = still(2);
        for (int calls = 0; calls < 99; calls++) {
            x.tick(1000);
        }
        say(x, "t999,t1,t1,v0:5");
        due("beyond the last time", 2, x.carryOut());
        due("the last time", 100000, x.state(0));
        due("not the one behind", 0, x.ring(0, 0));
    }

    private static void carryOutAnswers() {
        of("Returns the number of steps that did not fail;");
        DyeTank x = new DyeTank();
        say(x, "t1");
        due("one", 1, x.carryOut());
        say(x, "v0:-1,v1:-1500,v0:-6");
        due("a previous velocity below 0 is no failure", 3, x.carryOut());
        say(x, "t1,t1,t1,t1,t1,t1,t1,t1,t1,t1,t1,t1,t1,t1,t1,t1,t1,t1,t1,t1");
        due("as many as a pad can have", 20, x.carryOut());
        due("their ticks", 21, x.state(0));
        of("BAD_TEXT if the text is not correct.");
        due("an empty pad", BAD_TEXT, x.carryOut());
        say(x, "t1,t2,");
        due("a step is missing", BAD_TEXT, x.carryOut());
        due("the pad stays", 6, x.state(5));
        due("nothing was carried out", 21, x.state(0));
        due("again", BAD_TEXT, x.carryOut());
        x.say('t');
        x.say('3');
        due("correct then", 3, x.carryOut());
        due("the ticks", 27, x.state(0));
        due("no text is left", BAD_TEXT, x.carryOut());
    }

    /** A tank of 3 rings with something of everything, at the time 61. */
    private static DyeTank busy() {
        DyeTank x = new DyeTank();
        x.setUp(3);
        for (int setting = 0; setting < 7; setting++) {
            x.set(setting, 41 + setting);
        }
        x.spinAll(300, -200);
        for (int colour = 0; colour < 3; colour++) {
            x.pour(colour, TOP, 1, 2 + colour, 90000);
            x.pour(colour, BOTTOM, 2, 2, 8000 + colour);
        }
        for (int number = 0; number < 6; number++) {
            x.marker(500 * number, 600 * number);
        }
        x.tick(61);
        return x;
    }

    private static void change(DyeTank x) {
        x.set(MIX, 1);
        x.set(WALL_SPEED, -1);
        x.spinAll(400, -400);
        x.pour(0, TOP, 0, 0, 10);
        x.tick(30);
    }

    private static void save() {
        promise(23);
        of("Saves everything except the pad and the slots in a slot, and overwrites what was saved there.");
        DyeTank x = busy();
        List<Long> before = everything(x);
        x.say('t');
        x.save(0);
        dueSame("the tank stays", before, everything(x));
        change(x);
        x.say('2');
        x.save(1);
        List<Long> later = everything(x);
        x.restore(0);
        dueSame("everything", before, everything(x));
        due("except the pad", 2, x.state(5));
        due("and except the slots", 91, x.restore(1));
        dueSame("everything in the other slot", later, everything(x));
        x.setUp(12);
        x.save(0);
        x.setUp(2);
        x.restore(0);
        due("overwritten", 12, x.state(1));
        due("with no markers", 0, x.state(2));
        due("with no dye", 0, x.colour(0, 0));
        due("the other slot is not overwritten", 91, x.restore(1));
        of("- `slot`: 0 or 1");
        x = new DyeTank();
        due("0", 0, x.save(0));
        due("1", 0, x.save(1));
        of("Returns the time;");
        x.tick(7);
        due("seven", 7, x.save(1));
        due("the same", 7, x.save(1));
        of("BAD_VALUE if the slot does not exist.");
        for (int slot : new int[] {-1, 2, LEAST, GREATEST}) {
            due("save(" + slot + ")", BAD_VALUE, x.save(slot));
        }
        x.tick(1);
        due("the slot 1 stays", 7, x.restore(1));
        due("the slot 0 stays", 0, x.restore(0));
    }

    private static void restore() {
        promise(24);
        of("Restores what was saved last in a slot, which keeps it.");
        DyeTank x = busy();
        List<Long> before = everything(x);
        x.save(1);
        for (int times = 0; times < 3; times++) {
            int crossings = x.where(3, 4);
            change(x);
            due("a marker comes to another ring", crossings + 1, x.where(3, 4));
            x.restore(1);
            dueSame("once more", before, everything(x));
        }
        x.setUp(12);
        x.marker(11999, 1);
        x.restore(1);
        dueSame("behind setUp()", before, everything(x));
        DyeTank other = busy();
        other.tick(70);
        x.tick(70);
        dueSame("it goes on as without saving", everything(other), everything(x));
        x.save(1);
        x.tick(1);
        due("the last that was saved", 131, x.restore(1));
        of("- `slot`: 0 or 1");
        x = new DyeTank();
        x.save(0);
        x.tick(1);
        x.save(1);
        x.tick(1);
        due("0", 0, x.restore(0));
        due("1", 1, x.restore(1));
        of("Returns the time;");
        x.tick(9);
        x.save(0);
        x.setUp(2);
        due("that of what was saved", 10, x.restore(0));
        due("which is the time then", 10, x.state(0));
        of("BAD_VALUE if the slot does not exist;");
        for (int slot : new int[] {-1, 2, LEAST, GREATEST}) {
            due("restore(" + slot + ")", BAD_VALUE, x.restore(slot));
        }
        of("NOT_POSSIBLE if nothing was saved in it.");
        x = new DyeTank();
        due("neither", NOT_POSSIBLE, x.restore(0));
        due("neither", NOT_POSSIBLE, x.restore(1));
        x.save(1);
        due("the other", NOT_POSSIBLE, x.restore(0));
        due("not the one", 0, x.restore(1));
        x.tick(3);
        x.restore(0);
        due("the tank stays when it is not possible", 3, x.state(0));
    }
}
