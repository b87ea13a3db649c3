/** Each promise by itself: ordinary inputs, the edges that the document names, and wrong inputs. */
public final class PromisesTest {
    private static final long FAR = 1099511627776L;
    private static int wrong = 0;
    private static int checks = 0;
    private static int promise = 0;

    public static void main(String[] args) {
        newObject();
        bearing();
        remove();
        offset();
        weight();
        stiffness();
        rise();
        rises();
        type();
        read();
        readFaults();
        told();
        count();
        load();
        lifted();
        high();
        through();
        table();
        coupling();
        jack();
        bounds();
        fits();
        plan();
        planOfLikeOnes();
        move();
        reading();
        closes();
        mended();
        run();
        whirl();
        sheet();
        drop();
        item();
        copy();
        System.out.println(checks + " checks, " + wrong + " wrong");
        if (wrong != 0) {
            System.exit(1);
        }
    }

    private static void due(String call, long got, long want) {
        checks++;
        if (got != want) {
            wrong++;
            System.out.println("promise " + promise + ": " + call + " answered " + got + ", due is " + want);
        }
    }

    /** Both parts of a fraction. */
    private static void due(String call, long above, long below, long wantAbove, long wantBelow) {
        due(call + " above", above, wantAbove);
        due(call + " below", below, wantBelow);
    }

    private static ShaftLine line(String text) {
        ShaftLine x = new ShaftLine();
        typed(x, text);
        x.read();
        return x;
    }

    private static int typed(ShaftLine x, String text) {
        int answer = 0;
        for (int k = 0; k < text.length(); k += 8) {
            long w = 0;
            int n = Math.min(8, text.length() - k);
            for (int j = 0; j < n; j++) {
                w = w << 8 | text.charAt(k + j);
            }
            answer = x.type(w, n);
        }
        return answer;
    }

    private static void load(ShaftLine x, int state, int bearing, long above, long below) {
        due("load(" + state + ", " + bearing + ")", x.load(state, bearing, 0), x.load(state, bearing, 1), above, below);
    }

    private static void high(ShaftLine x, int state, int place, long above, long below) {
        due("high(" + state + ", " + place + ")", x.high(state, place, 0), x.high(state, place, 1), above, below);
    }

    private static void through(ShaftLine x, int state, int bearing, long above, long below) {
        due("through(" + state + ", " + bearing + ")", x.through(state, bearing, 0), x.through(state, bearing, 1), above, below);
    }

    private static void newObject() {
        promise = 1;
        ShaftLine x = new ShaftLine();
        due("count(0)", x.count(0), 0);
        due("count(1)", x.count(1), 0);
        due("count(2)", x.count(2), 10);
        due("count(3)", x.count(3), 0);
        due("closes()", x.closes(), ShaftLine.NONE);
        due("read()", x.read(), -20);
        for (int p = 0; p < 13; p++) {
            due("weight", x.weight(p, 0), 0);
            for (int s = 0; s < 4; s++) {
                due("rise", x.rise(s, p, 0), 0);
            }
        }
        for (int s = 0; s < 4; s++) {
            due("drop", x.drop(s), ShaftLine.NULL);
        }
        due("constants", ShaftLine.BAD * 1000000 + ShaftLine.NOT * 100000 + ShaftLine.FULL * 10000 + ShaftLine.NONE * 1000
            + ShaftLine.NULL * 8 + ShaftLine.CAST * 4 + ShaftLine.INDEX * 2 + ShaftLine.SIZE, -1234000 - 88 - 48 - 26 - 14);
    }

    private static void bearing() {
        promise = 2;
        ShaftLine x = new ShaftLine();
        due("bearing(5, 7)", x.bearing(5, 7), 0);
        due("bearing(12, 50)", x.bearing(12, 50), 1);
        x.reading(0, 33);
        due("bearing(0, -50)", x.bearing(0, -50), 0);
        due("told(1, 0)", x.told(1, 0), 5);
        due("told(1, 1)", x.told(1, 1), 7);
        due("told(1, 3)", x.told(1, 3), 33);
        due("told(0, 3)", x.told(0, 3), 0);
        due("bearing(7, 0)", x.bearing(7, 0), 2);
        due("bearing(-1, 0)", x.bearing(-1, 0), ShaftLine.BAD);
        due("bearing(13, 0)", x.bearing(13, 0), ShaftLine.BAD);
        due("bearing(3, 51)", x.bearing(3, 51), ShaftLine.BAD);
        due("bearing(3, -51)", x.bearing(3, -51), ShaftLine.BAD);
        due("bearing(5, 51) at a bearing", x.bearing(5, 51), ShaftLine.BAD);
        due("bearing(5, 0) at a bearing", x.bearing(5, 0), ShaftLine.NOT);
        due("bearing(0, 0) at the first", x.bearing(0, 0), ShaftLine.NOT);
        due("told(1, 1) after it", x.told(1, 1), 7);
        due("bearing(8, 0)", x.bearing(8, 0), 3);
        due("bearing(9, 0)", x.bearing(9, 0), 4);
        due("a seventh", x.bearing(1, 0), ShaftLine.FULL);
        due("a seventh at a bearing", x.bearing(9, 0), ShaftLine.NOT);
        due("a seventh beyond", x.bearing(13, 0), ShaftLine.BAD);
        due("count(0)", x.count(0), 6);
        ShaftLine y = line("b0;b6;w3=40;f1");
        y.run(100);
        due("wear", y.told(0, 2), 2000);
        y.remove(0);
        y.bearing(0, 0);
        due("wear of a new one", y.told(0, 2), 0);
        due("wear of the other", y.told(1, 2), 2000);
        y.bearing(3, 0);
        due("wear goes on with its bearing", y.told(2, 2), 2000);
        due("wear of the new one", y.told(1, 2), 0);
        ShaftLine z = line("b0;b12;w3=16;w9=16");
        load(z, 0, 0, 16, 1);
        z.bearing(6, 0);
        load(z, 0, 0, 5, 1);
        z.remove(1);
        load(z, 0, 0, 16, 1);
        z.weight(0, 4);
        load(z, 0, 0, 20, 1);
    }

    private static void remove() {
        promise = 3;
        ShaftLine x = line("b1=1;b2=2;b3=3");
        due("remove(3)", x.remove(3), ShaftLine.BAD);
        due("remove(-1)", x.remove(-1), ShaftLine.BAD);
        x.reading(2, 9);
        due("remove(1)", x.remove(1), 2);
        due("told(1, 0)", x.told(1, 0), 3);
        due("told(1, 1)", x.told(1, 1), 3);
        due("told(1, 3)", x.told(1, 3), 9);
        due("told(0, 1)", x.told(0, 1), 1);
        due("told(2, 0)", x.told(2, 0), -100001);
        due("remove(1)", x.remove(1), 1);
        due("remove(0)", x.remove(0), 0);
        due("remove(0)", x.remove(0), ShaftLine.BAD);
        due("a bearing there again", x.bearing(2, 0), 0);
    }

    private static void offset() {
        promise = 4;
        ShaftLine x = line("b1=5;b2");
        due("offset(0, -50)", x.offset(0, -50), 5);
        due("offset(0, 50)", x.offset(0, 50), -50);
        due("offset(0, 51)", x.offset(0, 51), -101);
        due("offset(0, -51)", x.offset(0, -51), -101);
        due("offset(2, 0)", x.offset(2, 0), -101);
        due("offset(-1, 0)", x.offset(-1, 0), -101);
        due("told(0, 1)", x.told(0, 1), 50);
        due("told(1, 1)", x.told(1, 1), 0);
    }

    private static void weight() {
        promise = 5;
        ShaftLine x = new ShaftLine();
        due("weight(0, 50)", x.weight(0, 50), 0);
        due("weight(12, 1)", x.weight(12, 1), 0);
        due("weight(0, 3)", x.weight(0, 3), 50);
        due("weight(0, 51)", x.weight(0, 51), ShaftLine.BAD);
        due("weight(0, -1)", x.weight(0, -1), ShaftLine.BAD);
        due("weight(13, 1)", x.weight(13, 1), ShaftLine.BAD);
        due("weight(-1, 1)", x.weight(-1, 1), ShaftLine.BAD);
        due("count(1)", x.count(1), 4);
        due("weight(12, 0)", x.weight(12, 0), 1);
        due("count(3)", x.count(3), 1);
    }

    private static void stiffness() {
        promise = 6;
        ShaftLine x = new ShaftLine();
        due("stiffness(1)", x.stiffness(1), 10);
        due("stiffness(20)", x.stiffness(20), 1);
        due("stiffness(0)", x.stiffness(0), ShaftLine.BAD);
        due("stiffness(21)", x.stiffness(21), ShaftLine.BAD);
        due("count(2)", x.count(2), 20);
    }

    private static void rise() {
        promise = 7;
        ShaftLine x = line("b0;b12;w6=1");
        due("rise(0, 0, 20)", x.rise(0, 0, 20), 0);
        due("rise(0, 0, -20)", x.rise(0, 0, -20), 20);
        due("rise(3, 12, 4)", x.rise(3, 12, 4), 0);
        due("rise(0, 0, 21)", x.rise(0, 0, 21), -101);
        due("rise(0, 0, -21)", x.rise(0, 0, -21), -101);
        due("rise(4, 0, 0)", x.rise(4, 0, 0), -101);
        due("rise(-1, 0, 0)", x.rise(-1, 0, 0), -101);
        due("rise(0, 13, 0)", x.rise(0, 13, 0), -101);
        due("rise(0, -1, 0)", x.rise(0, -1, 0), -101);
        high(x, 0, 0, -20, 1);
        high(x, 1, 0, 0, 1);
        high(x, 3, 12, 4, 1);
        x.remove(0);
        x.bearing(0, 3);
        high(x, 0, 0, -17, 1);
        typed(x, "b0;b12");
        x.read();
        high(x, 0, 0, -20, 1);
    }

    private static void rises() {
        promise = 8;
        ShaftLine x = new ShaftLine();
        due("nothing there", x.rises(0, 2, 1, 0, 1), ShaftLine.NULL);
        x.sheet(2, 1, 13);
        for (int k = 0; k < 13; k++) {
            x.item(2, 1, k, k + 8);
        }
        due("all", x.rises(1, 2, 1, 0, 13), 13);
        due("rise(1, 0)", x.rise(1, 0, 0), 8);
        due("rise(1, 12)", x.rise(1, 12, 0), 20);
        due("rise(0, 0)", x.rise(0, 0, 0), 0);
        due("from 11 on", x.rises(1, 2, 1, 11, 2), 2);
        due("rise(1, 0)", x.rise(1, 0, 8), 19);
        due("rise(1, 1)", x.rise(1, 1, 9), 20);
        due("rise(1, 2) as it was", x.rise(1, 2, 10), 10);
        due("none", x.rises(1, 2, 1, 0, 0), 0);
        due("none from the end on", x.rises(1, 2, 1, 13, 0), 0);
        x.item(2, 1, 1, 21);
        due("beyond", x.rises(3, 2, 1, 0, 2), ShaftLine.NOT);
        due("it changes nothing", x.rise(3, 0, 0), 0);
        due("one that is not taken", x.rises(3, 2, 1, 0, 1), 1);
        x.item(2, 1, 1, -21);
        due("beyond", x.rises(3, 2, 1, 1, 1), ShaftLine.NOT);
        x.item(2, 1, 1, -20);
        due("at the bound", x.rises(3, 2, 1, 1, 1), 1);
        due("state", x.rises(4, 2, 1, 0, 1), ShaftLine.BAD);
        due("state", x.rises(-1, 2, 1, 0, 1), ShaftLine.BAD);
        due("sheet", x.rises(0, 4, 1, 0, 1), ShaftLine.BAD);
        due("sheet", x.rises(0, -1, 1, 0, 1), ShaftLine.BAD);
        due("lane", x.rises(0, 2, 3, 0, 1), ShaftLine.BAD);
        due("lane", x.rises(0, 2, -1, 0, 1), ShaftLine.BAD);
        due("number", x.rises(0, 2, 1, 0, 14), ShaftLine.BAD);
        due("number", x.rises(0, 2, 1, 0, -1), ShaftLine.BAD);
        due("another lane", x.rises(0, 2, 0, 99, 1), ShaftLine.CAST);
        due("ahead", x.rises(0, 2, 1, -1, 1), ShaftLine.INDEX);
        due("behind", x.rises(0, 2, 1, 13, 1), ShaftLine.INDEX);
        due("far behind", x.rises(0, 2, 1, Integer.MAX_VALUE, 13), ShaftLine.INDEX);
        due("BAD is ahead of NULL", x.rises(4, 0, 0, 0, 1), ShaftLine.BAD);
        typed(x, "b1;b12;w6=1");
        x.read();
        x.rise(0, 1, 0);
        high(x, 0, 1, 0, 1);
        x.item(2, 1, 0, 5);
        x.item(2, 1, 1, 6);
        x.rises(0, 2, 1, 0, 2);
        high(x, 0, 1, 6, 1);
    }

    private static void type() {
        promise = 9;
        ShaftLine x = new ShaftLine();
        due("type(0x6233, 2)", x.type(0x6233L, 2), 2);
        due("the highest first", x.read(), 1);
        due("what is higher counts for nothing", x.type(0x01026235L, 2), 2);
        due("read()", x.read(), 1);
        due("told(0, 0)", x.told(0, 0), 5);
        due("n", x.type(0x6262626262626262L, 0), ShaftLine.BAD);
        due("n", x.type(0x6262626262626262L, 9), ShaftLine.BAD);
        due("n", x.type(0x6262626262626262L, -1), ShaftLine.BAD);
        due("byte 31", x.type(0x621FL, 2), ShaftLine.BAD);
        due("byte 127", x.type(0x7F62L, 2), ShaftLine.BAD);
        due("byte 255", x.type(-1L, 1), ShaftLine.BAD);
        due("byte 126", x.type(0x7EL, 1), 1);
        due("byte 32", x.type(0x20L, 1), 2);
        due("read()", x.read(), -20);
        for (int k = 1; k <= 15; k++) {
            due("8 more", x.type(0x2020202020202020L, 8), 8 * k);
        }
        due("full", x.type(0x20L, 1), ShaftLine.FULL);
        due("BAD is ahead of FULL", x.type(0x1FL, 1), ShaftLine.BAD);
        due("read()", x.read(), -140);
        for (int k = 1; k <= 14; k++) {
            x.type(0x2020202020202020L, 8);
        }
        x.type(0x20202020202020L, 7);
        due("two more than fit", x.type(0x2020L, 2), ShaftLine.FULL);
        due("one that fits", x.type(0x20L, 1), 120);
    }

    private static void read() {
        promise = 10;
        ShaftLine x = new ShaftLine();
        x.bearing(7, 3);
        x.weight(4, 9);
        x.stiffness(4);
        x.rise(2, 3, 11);
        x.reading(0, 5);
        typed(x, "b3=-7;b0=50;b12;w6=50;w0=1");
        due("read()", x.read(), 3);
        due("told(0, 0)", x.told(0, 0), 0);
        due("told(0, 1)", x.told(0, 1), 50);
        due("told(1, 0)", x.told(1, 0), 3);
        due("told(1, 1)", x.told(1, 1), -7);
        due("told(2, 0)", x.told(2, 0), 12);
        due("told(2, 1)", x.told(2, 1), 0);
        due("reading", x.told(0, 3), 0);
        due("weights that were", x.weight(4, 0), 0);
        due("count(1)", x.count(1), 51);
        due("count(3)", x.count(3), 2);
        due("stiffness that is not told", x.count(2), 4);
        due("rises stay", x.rise(2, 3, 11), 11);
        x.weight(0, 4);
        typed(x, "f1;w1=1");
        due("no bearings", x.read(), 0);
        due("the least stiffness", x.count(2), 1);
        due("no weight at place 0", x.count(1), 1);
        typed(x, "f20;f6");
        due("no bearings", x.read(), 0);
        due("the last stiffness", x.count(2), 6);
        due("the tape is empty", x.read(), -20);
        typed(x, "  b 0 = - 5 0 ");
        due("a blank in a number", x.read(), -32);
        typed(x, "  b 0 = - 50 ;w  1=1;b 00012 = 07");
        due("blanks and noughts", x.read(), 2);
        due("told(0, 1)", x.told(0, 1), -50);
        due("told(1, 0)", x.told(1, 0), 12);
        due("told(1, 1)", x.told(1, 1), 7);
        typed(x, "b1=-0");
        due("less nothing", x.read(), 1);
        due("told(0, 1)", x.told(0, 1), 0);
        ShaftLine y = line("b0;b6;w3=40");
        y.run(100);
        typed(y, "b0;b6;w3=40;f");
        due("a fault", y.read(), -33);
        due("wear stays", y.told(0, 2), 2000);
        typed(y, "b0;b6;w3=40");
        y.read();
        due("wear goes", y.told(0, 2), 0);
    }

    private static void fault(String text, int place) {
        ShaftLine x = line("b1=1;w2=2;f3");
        typed(x, text);
        due("read() of '" + text + "'", x.read(), -20 - place);
        due("the bearing stays", x.told(0, 1), 1);
        due("the weight stays", x.count(1), 2);
        due("the stiffness stays", x.count(2), 3);
        due("the tape is empty", x.read(), -20);
    }

    private static void readFaults() {
        promise = 10;
        fault("   ", 3);
        fault(";", 0);
        fault("  x", 2);
        fault("B1", 0);
        fault("1", 0);
        fault("b", 1);
        fault("b  ", 3);
        fault("b=", 1);
        fault("b-1", 1);
        fault("b13", 1);
        fault("b 99999999999999999999", 2);
        fault("b1,b2", 2);
        fault("b1 1", 3);
        fault("b1=", 3);
        fault("b1=;", 3);
        fault("b1=51", 3);
        fault("b1=-51", 4);
        fault("b1=--1", 4);
        fault("b1=+1", 3);
        fault("b1=1=", 4);
        fault("b1;", 3);
        fault("b1;;", 3);
        fault("b1;b2;b1=3", 7);
        fault("b0;b1;b2;b3;b4;b5;b6", 18);
        fault("b0;b1;b2;b3;b4;b5; b5", 19);
        fault("w", 1);
        fault("w3", 2);
        fault("w3 ;", 3);
        fault("w3=", 3);
        fault("w3=0", 3);
        fault("w3=51", 3);
        fault("w3=-1", 3);
        fault("w13=1", 1);
        fault("w3=1;w3=1", 6);
        fault("w3=1;w3", 6);
        fault("f", 1);
        fault("f0", 1);
        fault("f21", 1);
        fault("f1=", 2);
        fault("f1f", 2);
        StringBuilder text = new StringBuilder("f1");
        for (int k = 2; k <= 20; k++) {
            text.append(";f").append(k);
        }
        ShaftLine x = new ShaftLine();
        typed(x, text.toString());
        due("twenty clauses", x.read(), 0);
        due("stiffness", x.count(2), 20);
        fault(text + " ;f1", text.length() + 1);
    }

    private static void told() {
        promise = 11;
        ShaftLine x = line("b2=9;b4=-3;w3=50");
        x.reading(1, 600);
        x.run(10);
        due("told(1, 0)", x.told(1, 0), 4);
        due("told(1, 1)", x.told(1, 1), -3);
        due("told(1, 2)", x.told(1, 2), 250);
        due("told(1, 3)", x.told(1, 3), 600);
        due("told(1, 4)", x.told(1, 4), -100001);
        due("told(1, -1)", x.told(1, -1), -100001);
        due("told(2, 0)", x.told(2, 0), -100001);
        due("told(-1, 0)", x.told(-1, 0), -100001);
    }

    private static void count() {
        promise = 12;
        ShaftLine x = line("b2;b4;b6;w3=50;w4=7;f19");
        due("count(0)", x.count(0), 3);
        due("count(1)", x.count(1), 57);
        due("count(2)", x.count(2), 19);
        due("count(3)", x.count(3), 2);
        due("count(4)", x.count(4), ShaftLine.BAD);
        due("count(-1)", x.count(-1), ShaftLine.BAD);
    }

    private static void load() {
        promise = 13;
        ShaftLine x = line("b0;b6;b12;w3=16;w9=16");
        load(x, 0, 0, 5, 1);
        load(x, 0, 1, 22, 1);
        load(x, 0, 2, 5, 1);
        x.stiffness(20);
        x.offset(1, -50);
        load(x, 0, 0, 16, 1);
        load(x, 0, 1, 0, 1);
        x.stiffness(10);
        x.offset(1, 50);
        load(x, 0, 0, 0, 1);
        load(x, 0, 1, 32, 1);
        x.offset(1, 0);
        x.rise(2, 6, 18);
        load(x, 2, 0, 5, 2);
        load(x, 2, 1, 27, 1);
        x.rise(2, 6, 9);
        load(x, 2, 0, 15, 4);
        load(x, 1, 0, 5, 1);
        due("state 4", x.load(4, 0, 0), -FAR - 1);
        due("state -1", x.load(-1, 0, 0), -FAR - 1);
        due("bearing 3", x.load(0, 3, 0), -FAR - 1);
        due("bearing -1", x.load(0, -1, 0), -FAR - 1);
        due("what 2", x.load(0, 0, 2), -FAR - 1);
        due("what -1", x.load(0, 0, -1), -FAR - 1);
        ShaftLine y = line("b4;b6;w1=1");
        due("it falls", y.load(0, 0, 0), -FAR - 2);
        due("it falls", y.load(0, 1, 1), -FAR - 2);
        due("BAD is ahead of NOT", y.load(0, 2, 0), -FAR - 1);
        due("one bearing", line("b4;w4=1").load(0, 0, 0), -FAR - 2);
        ShaftLine z = line("b3;b5;b9;b11;w7=30");
        load(z, 0, 0, 0, 1);
        load(z, 0, 1, 15, 1);
        z.rise(0, 3, -3);
        z.rise(0, 11, -3);
        load(z, 0, 0, 0, 1);
        load(z, 0, 2, 15, 1);
    }

    private static void lifted() {
        promise = 14;
        ShaftLine x = line("b0;b6;b12;w3=16;w9=16;f20");
        due("all carry", x.lifted(0), 0);
        x.rise(3, 6, -20);
        x.rise(2, 6, 20);
        x.offset(1, -20);
        due("the one between", x.lifted(3), 2);
        x.offset(1, 40);
        due("the outer ones", x.lifted(2), 5);
        due("state 4", x.lifted(4), ShaftLine.BAD);
        due("state -1", x.lifted(-1), ShaftLine.BAD);
        ShaftLine y = line("b4;b6");
        due("no weights", y.lifted(0), 3);
        y.weight(6, 9);
        due("a weight over one", y.lifted(0), 1);
        y.weight(7, 1);
        due("it falls", y.lifted(0), ShaftLine.NOT);
        due("no bearings", new ShaftLine().lifted(0), ShaftLine.NOT);
        due("BAD is ahead of NOT", new ShaftLine().lifted(4), ShaftLine.BAD);
        due("a set of three", line("b0;b6;b7;w3=16").lifted(0), 4);
    }

    private static void high() {
        promise = 15;
        ShaftLine x = line("b0;b12;w6=10");
        high(x, 0, 0, 0, 1);
        high(x, 0, 6, -36, 1);
        high(x, 0, 3, -99, 4);
        x.stiffness(20);
        high(x, 0, 6, -18, 1);
        x.rise(1, 12, 6);
        high(x, 1, 6, -15, 1);
        x.bearing(6, -50);
        high(x, 0, 6, -18, 1);
        x.offset(1, -12);
        high(x, 0, 6, -12, 1);
        due("state 4", x.high(4, 0, 0), -FAR - 1);
        due("state -1", x.high(-1, 0, 0), -FAR - 1);
        due("place 13", x.high(0, 13, 0), -FAR - 1);
        due("place -1", x.high(0, -1, 0), -FAR - 1);
        due("what 2", x.high(0, 0, 2), -FAR - 1);
        due("what -1", x.high(0, 0, -1), -FAR - 1);
        due("it falls", line("b0;b1;w12=1").high(0, 0, 0), -FAR - 2);
        due("no bearings", new ShaftLine().high(0, 0, 1), -FAR - 2);
        ShaftLine y = line("b0;b3=1;b6;w3=30");
        high(y, 0, 6, 2, 1);
        high(y, 0, 9, 3, 1);
        ShaftLine z = line("b3;b9;w6=20;f10");
        high(z, 0, 0, 27, 2);
        high(z, 0, 12, 27, 2);
    }

    private static void through() {
        promise = 16;
        ShaftLine x = line("b0;b6;b12;w3=16;w9=16");
        through(x, 0, 0, 5, 1);
        through(x, 0, 1, 22, 1);
        x.offset(1, 36);
        through(x, 0, 1, 32, 1);
        through(x, 0, 0, 0, 1);
        x.rise(1, 6, 18);
        through(x, 1, 1, 37, 1);
        through(x, 1, 0, -5, 2);
        due("state 4", x.through(4, 0, 0), -FAR - 1);
        due("state -1", x.through(-1, 0, 0), -FAR - 1);
        due("bearing 3", x.through(0, 3, 0), -FAR - 1);
        due("bearing -1", x.through(0, -1, 0), -FAR - 1);
        due("what 2", x.through(0, 0, 2), -FAR - 1);
        due("what -1", x.through(0, 0, -1), -FAR - 1);
        ShaftLine y = line("b4;w4=1");
        due("one bearing", y.through(0, 0, 0), -FAR - 2);
        y.bearing(6, 0);
        y.weight(4, 0);
        y.weight(1, 2);
        through(y, 0, 0, 5, 1);
        through(y, 0, 1, -3, 1);
        six(line(SIX));
    }

    /** Six bearings, unlike spans, weights all along; the answers are those of the equations solved at once. */
    private static final String SIX = "b1=3;b2;b4=-2;b7=1;b8;b11=2;w0=9;w3=50;w5=20;w6=31;w9=44;w12=7;f13";

    private static void six(ShaftLine x) {
        long[] above = {24881, -508, 139396, 307040, -74056, 180269};
        long[] below = {774, 129, 3483, 3483, 3483, 6966};
        for (int b = 0; b < 6; b++) {
            through(x, 0, b, above[b], below[b]);
        }
    }

    private static void table(ShaftLine x, int a, int b, long above, long below) {
        due("table(" + a + ", " + b + ")", x.table(a, b, 0), x.table(a, b, 1), above, below);
    }

    private static void table() {
        promise = 17;
        ShaftLine x = line("b0=44;b6=-3;b12;w3=16;w9=16");
        table(x, 1, 1, 5, 18);
        table(x, 0, 1, -5, 36);
        table(x, 1, 0, -5, 36);
        table(x, 0, 0, 5, 72);
        table(x, 2, 0, 5, 72);
        x.weight(0, 50);
        table(x, 0, 0, 5, 72);
        x.stiffness(20);
        table(x, 1, 1, 5, 9);
        due("a 3", x.table(3, 0, 0), -FAR - 1);
        due("a -1", x.table(-1, 0, 0), -FAR - 1);
        due("b 3", x.table(0, 3, 0), -FAR - 1);
        due("b -1", x.table(0, -1, 0), -FAR - 1);
        due("what 2", x.table(0, 0, 2), -FAR - 1);
        due("what -1", x.table(0, 0, -1), -FAR - 1);
        x.remove(1);
        table(x, 0, 1, 0, 1);
        ShaftLine y = line(SIX);
        table(y, 0, 0, 1209, 86);
        table(y, 0, 4, 182, 129);
        table(y, 1, 1, 6669, 172);
        table(y, 1, 5, 13, 86);
        table(y, 2, 2, 76375, 4644);
        table(y, 3, 3, 44512, 1161);
        table(y, 4, 0, 182, 129);
        table(y, 4, 4, 37960, 1161);
        table(y, 5, 1, 13, 86);
        table(y, 5, 5, 2561, 2322);
        x.remove(1);
        due("one bearing", x.table(0, 0, 0), -FAR - 2);
        due("BAD is ahead of NOT", x.table(0, 1, 0), -FAR - 1);
    }

    private static void coupling(ShaftLine x, int state, int place, int which, long above, long below) {
        due("coupling(" + state + ", " + place + ", " + which + ")", x.coupling(state, place, which, 0),
            x.coupling(state, place, which, 1), above, below);
    }

    private static void coupling() {
        promise = 18;
        ShaftLine x = line("b0;b4;b8;b12");
        coupling(x, 0, 6, 0, 0, 1);
        x.offset(0, 4);
        coupling(x, 0, 6, 0, -2, 1);
        coupling(x, 0, 6, 1, -10, 1);
        x.rise(1, 12, 2);
        coupling(x, 1, 6, 0, -1, 1);
        coupling(x, 1, 6, 1, -15, 1);
        x.offset(0, 0);
        x.weight(2, 30);
        coupling(x, 0, 6, 0, 6, 1);
        coupling(x, 0, 6, 1, 30, 1);
        x.weight(6, 3);
        coupling(x, 0, 6, 0, 42, 5);
        x.weight(6, 0);
        coupling(x, 0, 8, 0, 12, 1);
        due("too few right", x.coupling(0, 9, 0, 0), -FAR - 2);
        due("too few left", x.coupling(0, 4, 1, 1), -FAR - 2);
        coupling(x, 0, 5, 1, 30, 1);
        due("place 0", x.coupling(0, 0, 0, 0), -FAR - 2);
        due("place 12", x.coupling(0, 12, 0, 0), -FAR - 2);
        due("state 4", x.coupling(4, 6, 0, 0), -FAR - 1);
        due("state -1", x.coupling(-1, 6, 0, 0), -FAR - 1);
        due("place 13", x.coupling(0, 13, 0, 0), -FAR - 1);
        due("place -1", x.coupling(0, -1, 0, 0), -FAR - 1);
        due("which 2", x.coupling(0, 6, 2, 0), -FAR - 1);
        due("which -1", x.coupling(0, 6, -1, 0), -FAR - 1);
        due("what 2", x.coupling(0, 6, 0, 2), -FAR - 1);
        due("what -1", x.coupling(0, 6, 0, -1), -FAR - 1);
    }

    private static void jack(ShaftLine x, int state, int place, int v, long above, long below) {
        due("jack(" + state + ", " + place + ", " + v + ")", x.jack(state, place, v, 0), x.jack(state, place, v, 1), above, below);
    }

    private static void jack() {
        promise = 19;
        ShaftLine x = line("b0;b12;w3=16;w9=16");
        jack(x, 0, 6, 0, 22, 1);
        jack(x, 0, 6, 9, 49, 2);
        jack(x, 0, 6, -90, 0, 1);
        jack(x, 0, 6, 90, 32, 1);
        x.rise(1, 6, 20);
        jack(x, 1, 6, 0, 22, 1);
        x.rise(2, 0, 9);
        x.rise(2, 12, 9);
        jack(x, 2, 6, 9, 22, 1);
        x.load(0, 0, 0);
        jack(x, 0, 6, 0, 22, 1);
        load(x, 0, 0, 16, 1);
        due("at a bearing", x.jack(0, 12, 0, 0), -FAR - 1);
        due("at the first", x.jack(0, 0, 0, 0), -FAR - 1);
        due("height", x.jack(0, 6, 91, 0), -FAR - 1);
        due("height", x.jack(0, 6, -91, 0), -FAR - 1);
        due("state 4", x.jack(4, 6, 0, 0), -FAR - 1);
        due("state -1", x.jack(-1, 6, 0, 0), -FAR - 1);
        due("place 13", x.jack(0, 13, 0, 0), -FAR - 1);
        due("place -1", x.jack(0, -1, 0, 0), -FAR - 1);
        due("what 2", x.jack(0, 6, 0, 2), -FAR - 1);
        due("what -1", x.jack(0, 6, 0, -1), -FAR - 1);
        due("count(0)", x.count(0), 2);
        due("no bearings", new ShaftLine().jack(0, 6, 0, 0), -FAR - 2);
        ShaftLine y = line("b4;w5=2");
        jack(y, 0, 6, 0, 1, 1);
        due("it falls", y.jack(0, 3, 0, 0), -FAR - 2);
        ShaftLine z = line("b0;b2;b4;b8;b10;b12;w6=50");
        jack(z, 0, 6, 0, 50, 1);
        jack(z, 0, 6, -90, 0, 1);
        ShaftLine w = line("b0;b2;b4;b6;b8;b10;w1=50;w3=50;w5=50;w7=50;w9=50;w11=50");
        jack(w, 0, 12, 0, 1775, 104);
        jack(w, 0, 12, 3, 1201, 52);
        jack(w, 0, 5, 0, 20, 1);
        jack(w, 0, 1, -1, 0, 1);
        jack(w, 0, 7, -90, 0, 1);
        jack(w, 0, 11, 90, 18945, 202);
    }

    private static void bounds() {
        promise = 20;
        ShaftLine x = line("b0;b12;w6=40");
        due("0, 600 at first", x.fits(1), 1);
        due("bounds(20, 20)", x.bounds(20, 20), 1);
        due("fits(1)", x.fits(1), 1);
        due("bounds(0, 19)", x.bounds(0, 19), 1);
        due("fits(1)", x.fits(1), 0);
        due("bounds(21, 600)", x.bounds(21, 600), 1);
        due("fits(1)", x.fits(1), 0);
        due("bounds(21, 20)", x.bounds(21, 20), ShaftLine.BAD);
        due("bounds(-1, 20)", x.bounds(-1, 20), ShaftLine.BAD);
        due("bounds(0, 601)", x.bounds(0, 601), ShaftLine.BAD);
        due("bounds(601, 601)", x.bounds(601, 601), ShaftLine.BAD);
        due("bounds(-2, -1)", x.bounds(-2, -1), ShaftLine.BAD);
        due("it changes nothing", x.fits(1), 0);
        due("bounds(600, 600)", x.bounds(600, 600), 1);
        due("bounds(0, 0)", x.bounds(0, 0), 1);
        x.weight(6, 0);
        due("no loads", x.fits(1), 1);
        due("plan(1)", x.plan(1), 0);
        x.bounds(1, 600);
        due("bounds change a plan", x.plan(1), ShaftLine.NONE);
    }

    private static void fits() {
        promise = 21;
        ShaftLine x = line("b0;b6;b12;w3=16;w9=16");
        x.bounds(5, 22);
        due("at both bounds", x.fits(15), 1);
        x.rise(1, 6, 1);
        due("fits(1)", x.fits(1), 1);
        due("fits(2)", x.fits(2), 0);
        due("fits(3)", x.fits(3), 0);
        due("fits(13)", x.fits(13), 1);
        x.bounds(0, 600);
        x.stiffness(20);
        x.offset(1, -50);
        due("a lifted one at 0", x.fits(1), 1);
        x.bounds(1, 600);
        due("a lifted one below the bound", x.fits(1), 0);
        due("fits(0)", x.fits(0), ShaftLine.BAD);
        due("fits(16)", x.fits(16), ShaftLine.BAD);
        due("fits(-1)", x.fits(-1), ShaftLine.BAD);
        due("it falls", line("b0;b1;w5=1").fits(1), 0);
        due("no bearings", new ShaftLine().fits(1), 0);
        ShaftLine y = line("b0;b12;w0=40;w6=10");
        y.bounds(0, 44);
        due("the first beyond alone", y.fits(1), 0);
        due("nor by a plan", y.plan(1), ShaftLine.NONE);
        y.bounds(0, 45);
        due("at the bound", y.fits(1), 1);
    }

    private static void plan() {
        promise = 22;
        ShaftLine x = line("b0;b6;b12;w3=16;w9=16");
        x.bounds(4, 23);
        due("it fits as it is", x.plan(15), 0);
        due("none is moved", x.move(15, 1), 0);
        load(x, 0, 0, 5, 1);
        high(x, 0, 6, 0, 1);
        x.offset(1, 3);
        x.bounds(5, 22);
        due("one alone can't", x.plan(1), 2);
        due("move(1, 0)", x.move(1, 0), 0);
        due("move(1, 1)", x.move(1, 1), -2);
        due("move(1, 2)", x.move(1, 2), 2);
        x.offset(1, 2);
        due("one by two", x.plan(1), 1);
        due("move(1, 1)", x.move(1, 1), -2);
        due("move(1, 0)", x.move(1, 0), 0);
        due("plan(0)", x.plan(0), ShaftLine.BAD);
        due("plan(16)", x.plan(16), ShaftLine.BAD);
        due("plan(-1)", x.plan(-1), ShaftLine.BAD);
        x.bounds(6, 21);
        x.offset(1, 50);
        due("too far", x.plan(1), ShaftLine.NONE);
        ShaftLine y = line("b0;b3;b6;b9;b12;w3=16;w9=16");
        due("five bearings", y.plan(1), ShaftLine.NONE);
        due("it would fit", y.fits(1), 1);
        y.remove(4);
        due("four bearings", y.plan(1), 0);
        ShaftLine four = line("b0;b4;b8;b12;w2=20;w6=20;w10=20");
        four.bounds(1, 600);
        due("all four carry", four.plan(1), 0);
        due("it just falls", line("b4;b5;w6=1").plan(1), ShaftLine.NONE);
        due("the first two would have to hold down by 1", line("b4;b5;b12=-50;w6=1").plan(1), 0);
        ShaftLine bare = line("b0;b1;b2=-2");
        bare.bounds(0, 0);
        due("no loads, one lifted", bare.plan(1), 0);
        due("it falls", line("b0;b1;w5=1").plan(1), ShaftLine.NONE);
        due("no bearings", new ShaftLine().plan(1), ShaftLine.NONE);
        ShaftLine z = line("b0=49;b6=49;b12=49;w0=20;w3=16;w9=16;w12=20");
        z.rise(0, 0, 1);
        z.rise(0, 12, 1);
        z.bounds(0, 25);
        due("plan(1)", z.plan(1), 1);
        due("the one between comes up", z.move(1, 1), 1);
        z.offset(0, 50);
        z.offset(1, 50);
        z.offset(2, 50);
        due("none comes above 50", z.plan(1), 1);
        due("move(1, 1)", z.move(1, 1), 0);
        due("the first goes down", z.move(1, 0), -2);
        due("not the last", z.move(1, 2), 0);
        ShaftLine s = line("b0;b6;b12;w3=16;w9=16");
        s.bounds(0, 22);
        s.rise(1, 6, 2);
        due("in state 0", s.plan(1), 0);
        due("in state 1", s.plan(2), 1);
        due("in both", s.plan(3), 1);
        due("move in both", s.move(3, 1), -2);
    }

    /** Of like ones the least sum, then the first by numbers, the lesser MOVE first. */
    private static void planOfLikeOnes() {
        promise = 22;
        ShaftLine x = line("b0;b6;b12;w3=16;w9=16;f15");
        x.bounds(0, 21);
        due("plan(1)", x.plan(1), 2);
        due("move(1, 0)", x.move(1, 0), 0);
        due("move(1, 1)", x.move(1, 1), -2);
        due("move(1, 2)", x.move(1, 2), 1);
        x.stiffness(10);
        due("plan(1)", x.plan(1), 3);
        due("move(1, 0)", x.move(1, 0), 2);
        due("move(1, 1)", x.move(1, 1), -2);
        due("move(1, 2)", x.move(1, 2), 2);
        ShaftLine y = line("b0;b6=2;b12;w3=16;w9=16;f20");
        y.bounds(0, 22);
        due("plan(1)", y.plan(1), 1);
        due("move(1, 1)", y.move(1, 1), -2);
        y.offset(1, 1);
        due("plan(1)", y.plan(1), 1);
        due("the least sum, though an end by 2 would do", y.move(1, 1), -1);
        due("move(1, 0)", y.move(1, 0), 0);
    }

    private static void move() {
        promise = 23;
        ShaftLine x = line("b0;b6=2;b12;w3=16;w9=16");
        x.bounds(5, 22);
        due("move(1, 1)", x.move(1, 1), -2);
        due("move(1, 2)", x.move(1, 2), 0);
        due("it is a plan alone", x.told(1, 1), 2);
        x.offset(1, 1);
        due("another plan", x.move(1, 1), -1);
        due("states 0", x.move(0, 0), -101);
        due("states 16", x.move(16, 0), -101);
        due("bearing 3", x.move(1, 3), -101);
        due("bearing -1", x.move(1, -1), -101);
        x.bounds(600, 600);
        due("no plan", x.move(1, 0), -104);
        due("BAD is ahead of NONE", x.move(1, 3), -101);
        ShaftLine y = line("b0;b3;b6;b9;b12;w3=16;w9=16");
        due("five bearings", y.move(1, 4), -104);
        due("five bearings", y.move(1, 0), -104);
    }

    private static void reading() {
        promise = 24;
        ShaftLine x = line("b0;b6");
        due("reading(0, 600)", x.reading(0, 600), 0);
        due("reading(0, 0)", x.reading(0, 0), 600);
        due("reading(1, 7)", x.reading(1, 7), 0);
        due("reading(1, -1)", x.reading(1, -1), ShaftLine.BAD);
        due("reading(1, 601)", x.reading(1, 601), ShaftLine.BAD);
        due("reading(2, 1)", x.reading(2, 1), ShaftLine.BAD);
        due("reading(-1, 1)", x.reading(-1, 1), ShaftLine.BAD);
        due("told(1, 3)", x.told(1, 3), 7);
    }

    private static void closes() {
        promise = 25;
        ShaftLine x = line("b0;b6;b12;w3=16;w9=16");
        due("two of three lack", x.closes(), 11);
        x.reading(0, 5);
        due("none is wrong alone", x.closes(), 0);
        x.reading(1, 22);
        due("the last", x.closes(), 12);
        x.reading(2, 5);
        due("closes", x.closes(), 1);
        x.reading(0, 6);
        due("the first", x.closes(), 10);
        x.reading(2, 4);
        due("all are there, moments are not", x.closes(), 0);
        x.reading(0, 4);
        x.reading(1, 24);
        due("closes another way", x.closes(), 1);
        x.weight(0, 1);
        due("weights changed", x.closes(), 10);
        x.weight(0, 0);
        x.weight(1, 1);
        due("weights changed", x.closes(), 0);
        due("no bearings", new ShaftLine().closes(), ShaftLine.NONE);
        due("no weights, no readings", line("b3").closes(), 1);
        due("one bearing", line("b3;w3=8").closes(), 10);
        due("one bearing aside", line("b3;w4=8").closes(), 0);
        ShaftLine y = line("b2;b4;w3=10");
        y.reading(0, 5);
        y.reading(1, 5);
        due("no bearing at place 0", y.closes(), 1);
    }

    private static void mended() {
        promise = 26;
        ShaftLine x = line("b0;b6;b12;w3=16;w9=16");
        x.reading(0, 5);
        x.reading(1, 100);
        x.reading(2, 5);
        due("mended(1)", x.mended(1), 22);
        due("mended(0)", x.mended(0), ShaftLine.NONE);
        due("mended(3)", x.mended(3), ShaftLine.BAD);
        due("mended(-1)", x.mended(-1), ShaftLine.BAD);
        x.reading(1, 22);
        due("all close", x.mended(1), ShaftLine.NONE);
        x.reading(0, 20);
        x.reading(1, 22);
        due("it tells no more than it must", x.mended(0), 5);
        x.reading(0, 20);
        x.reading(2, 20);
        due("two are wrong", x.mended(0), ShaftLine.NONE);
        due("but one between could mend both", x.mended(1), 32 - 40);
        due("no bearings", new ShaftLine().mended(0), ShaftLine.BAD);
    }

    private static void run() {
        promise = 27;
        ShaftLine x = line("b0;b6;b12;w3=16;w9=16");
        x.rise(1, 6, -20);
        due("run(100)", x.run(100), 0);
        due("told(0, 2)", x.told(0, 2), 500);
        due("told(1, 2)", x.told(1, 2), 2200);
        due("run(1000)", x.run(1000), 1);
        due("told(1, 1)", x.told(1, 1), -2);
        due("told(1, 2)", x.told(1, 2), 4200);
        due("told(0, 1)", x.told(0, 1), 0);
        due("run(0)", x.run(0), ShaftLine.BAD);
        due("run(1001)", x.run(1001), ShaftLine.BAD);
        due("run(-1)", x.run(-1), ShaftLine.BAD);
        due("loads behind a run are new ones", x.through(0, 1, 0) * 9, (22 * 9 - 5) * x.through(0, 1, 1));
        due("loads at rest too", x.load(0, 1, 0) * 9, (22 * 9 - 5) * x.load(0, 1, 1));
        due("run(1): the load is cut", x.run(1), 0);
        due("told(1, 2)", x.told(1, 2), 4221);
        due("it falls", line("b0;b1;w5=1").run(1), ShaftLine.NOT);
        due("BAD is ahead of NOT", new ShaftLine().run(0), ShaftLine.BAD);
        ShaftLine y = line("b0=-49;b12=-50;w0=50;w12=30");
        due("one becomes less", y.run(1000), 1);
        due("told(0, 1)", y.told(0, 1), -50);
        due("told(0, 2)", y.told(0, 2), 0);
        due("told(1, 1)", y.told(1, 1), -50);
        due("told(1, 2)", y.told(1, 2), 0);
        due("none becomes less", y.run(999), 0);
        due("told(0, 2)", y.told(0, 2), 9950);
        due("told(1, 2)", y.told(1, 2), 9970);
        ShaftLine z = line("b0;b12;w0=50;w12=10");
        z.run(200);
        due("10000 just full", z.told(0, 2), 0);
        due("told(0, 1)", z.told(0, 1), -1);
        due("told(1, 2)", z.told(1, 2), 2000);
        ShaftLine w = line("b0;b12;w0=5");
        w.rise(0, 0, 20);
        w.rise(1, 0, -20);
        due("a plan ahead of a run", w.plan(1), 0);
        w.bounds(0, 4);
        due("run(1000)", w.run(1000), 0);
        due("it wears by state 0", w.told(0, 2), 5000);
    }

    private static void whirl() {
        promise = 28;
        ShaftLine x = line("b0;b12;w6=10");
        due("one weight: 1000000 by 36000", x.whirl(), 27);
        x.stiffness(20);
        due("1000000 by 18000", x.whirl(), 55);
        x.offset(0, 50);
        x.rise(0, 12, 20);
        due("bearings are at 0", x.whirl(), 55);
        x.weight(6, 0);
        due("no weights", x.whirl(), 0);
        x.weight(0, 50);
        due("weights over bearings", x.whirl(), 0);
        x.weight(0, 0);
        x.weight(3, 5);
        x.weight(9, 1);
        due("two weights", x.whirl(), whirlOf(5, 1));
        due("1/120 deep: 8 thousandths", line("b0;b2;w1=1;f20").whirl(), 125000);
        due("11/108 deep: 101, cut", line("b3;b5;w4=11;f18").whirl(), 9900);
        due("13/120 deep: 108", line("b3;b5;w4=13;f20").whirl(), 1000000 / 108);
        due("beyond, at place 0: 1 * 3 * 3 * 9 / 30", line("b3;b9;w0=1").whirl(), 1000000 / 2700);
        x.remove(0);
        due("one bearing", x.whirl(), ShaftLine.NOT);
        due("no bearings", new ShaftLine().whirl(), ShaftLine.NOT);
        // depth at 3: 9/2 by its own weight, less 27/40 by the other; at 9: 27/10, less 27/4
        due("a height above 0 counts as a depth below 0", line("b0;b6;w3=10;w9=1;f10").whirl(),
            1000000L * (10 * 3825 - 4050) / (10L * 3825 * 3825 + 4050L * 4050));
    }

    /** By the formulas of a shaft on two bearings, F 20, weights at 3 and 9 of 12. */
    private static long whirlOf(long a, long b) {
        // depth at 3 of 1 at 3: 9*9*9 / (3*12*20) = 81/80; at 9 of 1 at 3: 3*3*(144-9-9)/(6*12*20) = 63/80
        long one = 1000 * (a * 81 + b * 63) / 80;
        long other = 1000 * (a * 63 + b * 81) / 80;
        return 1000000 * (a * one + b * other) / (a * one * one + b * other * other);
    }

    private static void sheet() {
        promise = 29;
        ShaftLine x = new ShaftLine();
        due("sheet(3, 2, 13)", x.sheet(3, 2, 13), 13);
        x.item(3, 2, 12, 7);
        x.item(3, 2, 0, 7);
        due("sheet(3, 2, 13)", x.sheet(3, 2, 13), 13);
        due("0 at first", x.rises(0, 3, 2, 0, 1), 1);
        due("rise", x.rise(0, 0, 0), 0);
        due("0 at first", x.rises(0, 3, 2, 12, 1), 1);
        due("rise", x.rise(0, 0, 0), 0);
        due("sheet(3, 0, 0)", x.sheet(3, 0, 0), 0);
        due("no item", x.item(3, 0, 0, 1), ShaftLine.INDEX);
        due("no longer of lane 2", x.item(3, 2, 0, 1), ShaftLine.CAST);
        due("sheet(4, 0, 1)", x.sheet(4, 0, 1), ShaftLine.BAD);
        due("sheet(-1, 0, 1)", x.sheet(-1, 0, 1), ShaftLine.BAD);
        due("sheet(0, 3, 1)", x.sheet(0, 3, 1), ShaftLine.BAD);
        due("sheet(0, -1, 1)", x.sheet(0, -1, 1), ShaftLine.BAD);
        due("sheet(0, 0, 14)", x.sheet(0, 0, 14), ShaftLine.BAD);
        due("sheet(0, 0, -1)", x.sheet(0, 0, -1), ShaftLine.SIZE);
        due("least of all", x.sheet(3, 0, Integer.MIN_VALUE), ShaftLine.SIZE);
        due("BAD is ahead of SIZE", x.sheet(4, 0, -1), ShaftLine.BAD);
        due("nothing came of it", x.drop(0), ShaftLine.NULL);
        due("it holds what it held", x.drop(3), 0);
    }

    private static void drop() {
        promise = 30;
        ShaftLine x = new ShaftLine();
        x.sheet(1, 1, 9);
        due("drop(1)", x.drop(1), 9);
        due("drop(1)", x.drop(1), ShaftLine.NULL);
        due("item of nothing", x.item(1, 1, 0, 1), ShaftLine.NULL);
        due("drop(4)", x.drop(4), ShaftLine.BAD);
        due("drop(-1)", x.drop(-1), ShaftLine.BAD);
    }

    private static void item() {
        promise = 31;
        ShaftLine x = new ShaftLine();
        x.sheet(0, 0, 2);
        x.sheet(1, 1, 2);
        x.sheet(2, 2, 2);
        due("a byte", x.item(0, 0, 0, 256 + 5), 1);
        due("its lowest bits", x.rises(0, 0, 0, 0, 1), 1);
        due("rise", x.rise(0, 0, 0), 5);
        x.item(0, 0, 1, 0xFFEC);
        x.rises(0, 0, 0, 1, 1);
        due("below 0", x.rise(0, 0, 0), -20);
        x.item(0, 0, 1, 128);
        due("128 is -128", x.rises(0, 0, 0, 1, 1), ShaftLine.NOT);
        x.item(1, 1, 0, 65536 * 3 + 7);
        x.rises(0, 1, 1, 0, 1);
        due("a short", x.rise(0, 0, 0), 7);
        x.item(1, 1, 0, 256);
        due("more than a byte", x.rises(0, 1, 1, 0, 1), ShaftLine.NOT);
        x.item(2, 2, 0, 65536);
        due("an int", x.rises(0, 2, 2, 0, 1), ShaftLine.NOT);
        due("ahead", x.item(2, 2, -1, 0), ShaftLine.INDEX);
        due("behind", x.item(2, 2, 2, 0), ShaftLine.INDEX);
        due("far behind", x.item(2, 2, Integer.MAX_VALUE, 0), ShaftLine.INDEX);
        due("another lane", x.item(2, 1, 9, 0), ShaftLine.CAST);
        due("nothing", x.item(3, 1, 9, 0), ShaftLine.NULL);
        due("lane", x.item(3, 3, 0, 0), ShaftLine.BAD);
        due("lane", x.item(0, -1, 0, 0), ShaftLine.BAD);
        due("sheet", x.item(4, 0, 0, 0), ShaftLine.BAD);
        due("sheet", x.item(-1, 0, 0, 0), ShaftLine.BAD);
    }

    private static void holds(ShaftLine x, int sheet, int lane, int... items) {
        for (int k = 0; k < items.length; k++) {
            x.rises(3, sheet, lane, k, 1);
            due("item " + k + " of sheet " + sheet, x.rise(3, 0, 0), items[k]);
        }
    }

    private static void copy() {
        promise = 32;
        ShaftLine x = new ShaftLine();
        x.sheet(0, 0, 5);
        x.sheet(1, 0, 3);
        x.sheet(2, 1, 3);
        for (int k = 0; k < 5; k++) {
            x.item(0, 0, k, k + 1);
        }
        due("to another", x.copy(0, 2, 1, 1, 2), 2);
        holds(x, 1, 0, 0, 3, 4);
        due("on", x.copy(0, 0, 0, 1, 4), 4);
        holds(x, 0, 0, 1, 1, 2, 3, 4);
        due("back", x.copy(0, 2, 0, 0, 3), 3);
        holds(x, 0, 0, 2, 3, 4, 3, 4);
        due("none", x.copy(0, 5, 1, 3, 0), 0);
        due("none beyond", x.copy(0, 6, 1, 3, 0), ShaftLine.INDEX);
        due("none beyond", x.copy(0, 5, 1, 4, 0), ShaftLine.INDEX);
        due("less than none", x.copy(0, 0, 1, 0, -1), ShaftLine.INDEX);
        due("from ahead", x.copy(0, -1, 1, 0, 1), ShaftLine.INDEX);
        due("to ahead", x.copy(0, 0, 1, -1, 1), ShaftLine.INDEX);
        due("from behind", x.copy(0, 4, 1, 0, 2), ShaftLine.INDEX);
        due("to behind", x.copy(0, 0, 1, 2, 2), ShaftLine.INDEX);
        due("far", x.copy(0, Integer.MAX_VALUE, 1, 0, Integer.MAX_VALUE), ShaftLine.INDEX);
        due("far", x.copy(0, 1, 1, Integer.MAX_VALUE, 1), ShaftLine.INDEX);
        holds(x, 1, 0, 0, 3, 4);
        due("unlike lanes", x.copy(0, 9, 2, 0, 1), ShaftLine.CAST);
        due("nothing to", x.copy(0, 0, 3, 0, 1), ShaftLine.NULL);
        due("nothing from", x.copy(3, 0, 0, 0, 1), ShaftLine.NULL);
        due("sheet", x.copy(4, 0, 3, 0, 1), ShaftLine.BAD);
        due("sheet", x.copy(3, 0, 4, 0, 1), ShaftLine.BAD);
        due("sheet", x.copy(-1, 0, 0, 0, 1), ShaftLine.BAD);
        due("sheet", x.copy(0, 0, -1, 0, 1), ShaftLine.BAD);
    }
}
