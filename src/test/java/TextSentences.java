/** Sentences of the promises 39 to 43, and of SETUP TEXTS. */
final class TextSentences extends Sentences {
    private static final String V = "vehicle 0 0 100;";
    private static final String S = "source 0 0 0 1 1;";
    private static final String M = "mic 0 0 0 0;";
    private static final String VALUES16 = " 1 -2 3 -4 5 -6 7 -8 9 -10 11 -12 13 -14 15 -16";

    private TrackArray good(String text, int statements) {
        TrackArray x = new TrackArray();
        c.due("load() of " + text, Checks.loadText(x, text), statements);
        c.due("errorCode() of " + text, x.errorCode(), 0);
        c.due("errorPosition() of " + text, x.errorPosition(), -1);
        return x;
    }

    private void wrong(String text, int code, int position) {
        TrackArray x = new TrackArray();
        c.due("load() of " + text, Checks.loadText(x, text), -1);
        c.due("errorCode() of " + text, x.errorCode(), code);
        c.due("errorPosition() of " + text, x.errorPosition(), position);
    }

    private static TrackArray written(String text) {
        TrackArray x = new TrackArray();
        Checks.write(x, text);
        return x;
    }

    // ---- promise 39

    @Says(promise = 39, sentence = "Appends four bytes to the text buffer, the highest byte of the parameter first.")
    void highestByteFirst() {
        TrackArray x = new TrackArray();
        x.appendText('s' << 24 | 'o' << 16 | 'u' << 8 | 'n');
        x.appendText('d' << 24 | '2' << 16 | '3' << 8 | '4');
        x.appendText(';' << 24 | ' ' << 16 | ' ' << 8 | ' ');
        c.due("load()", x.load(), 1);
        c.due("setSound", x.setSound(100), 234);
    }

    @Says(promise = 39, sentence = "`fourBytes`: the bytes")
    void eachOfTheFourBytes() {
        for (int place = 0; place < 4; place++) {
            for (int each : new int[] {0, 31, 33, 64, 127, 128, 200, 255}) {
                TrackArray x = new TrackArray();
                int blank = 0x20202020 & ~(255 << 24 - 8 * place);
                c.due("appendText", x.appendText(blank | each << 24 - 8 * place), 4);
                c.due("load() with the byte " + each, x.load(), -1);
                c.due("errorPosition()", x.errorPosition(), place);
            }
        }
        TrackArray y = new TrackArray();
        for (int bytes : new int[] {0, -1, MIN, MAX}) {
            y.appendText(bytes);
        }
        c.due("truncateText(16)", y.truncateText(16), 16);
    }

    @Says(promise = 39, sentence = "Returns the length of the text in bytes.")
    void lengthAfterAppending() {
        TrackArray x = new TrackArray();
        for (int length = 4; length <= 500; length += 4) {
            c.due("appendText", x.appendText(0x20202020), length);
        }
        x.truncateText(7);
        c.due("appendText after 7", x.appendText(0x20202020), 11);
        x.load();
        c.due("appendText after load()", x.appendText(0x20202020), 4);
    }

    @Says(promise = 39, sentence = "that is collected in a text buffer of at most 500 bytes.")
    void textOf500Bytes() {
        good("spreading;".repeat(50), 50);
        good(" ".repeat(499) + "\n", 0);
        good(" ".repeat(490) + "sound 100;", 1);
        wrong(" ".repeat(499) + "-", 1, 499);
        wrong("sound" + " ".repeat(495), 1, 500);
    }

    @Says(promise = 39, sentence = "Throws `IllegalStateException` if the text would be longer than 500 bytes")
    void textLongerThan500Bytes() {
        refuses(REFUSED, Scenes::crammed, x -> x.appendText(0x20202020), x -> x.appendText(0), x -> x.appendText(-1));
        for (int length = 497; length <= 500; length++) {
            TrackArray x = written(" ".repeat(length));
            c.refused("after " + length, () -> x.appendText(0x20202020));
            int more = length + 1;
            c.illegal("truncateText(" + more + ")", () -> x.truncateText(more));
            c.due("truncateText(" + length + ")", x.truncateText(length), length);
            c.due("truncateText(496)", x.truncateText(496), 496);
            c.due("appendText after 496", x.appendText(0x20202020), 500);
        }
    }

    // ---- promise 40

    @Says(promise = 40, sentence = "Cuts the text to its first bytes.")
    void textIsCut() {
        TrackArray x = written("sound 1234;");
        x.truncateText(9);
        Checks.write(x, ";   ");
        c.due("load()", x.load(), 1);
        c.due("setSound", x.setSound(100), 123);
        TrackArray y = written("vehicle 1 2 300;###");
        y.truncateText(16);
        c.due("load() without what is wrong", y.load(), 1);
    }

    @Says(promise = 40, sentence = "`length`: the new length, 0 to the present length")
    void leastAndGreatestLength() {
        TrackArray x = written("sound 123;  ");
        c.due("truncateText(12)", x.truncateText(12), 12);
        c.due("truncateText(11)", x.truncateText(11), 11);
        c.due("truncateText(0)", x.truncateText(0), 0);
        c.due("truncateText(0) of nothing", x.truncateText(0), 0);
        c.due("load() of nothing", x.load(), 0);
        TrackArray full = written(" ".repeat(500));
        c.due("truncateText(500)", full.truncateText(500), 500);
        c.due("truncateText(0) of 500", full.truncateText(0), 0);
    }

    @Says(promise = 40, sentence = "Returns the new length.")
    void newLength() {
        TrackArray x = written(" ".repeat(300));
        for (int length = 300; length >= 0; length--) {
            c.due("truncateText", x.truncateText(length), length);
        }
    }

    @Says(promise = 40, sentence = "Throws `IllegalArgumentException` if length is out of range")
    void lengthOutOfRange() {
        refuses(ILLEGAL, (x, length) -> x.truncateText(length), -1, 9, 12, 500, MIN, MAX);
        refuses(ILLEGAL, TrackArray::new, (x, length) -> x.truncateText(length), -1, 1, 4, MIN, MAX);
        refuses(ILLEGAL, Scenes::crammed, (x, length) -> x.truncateText(length), -1, 501, MIN, MAX);
        TrackArray x = written("sound 123;  ");
        x.truncateText(10);
        c.illegal("the length before", () -> x.truncateText(12));
        c.illegal("one more", () -> x.truncateText(11));
        x.load();
        c.illegal("one more than none", () -> x.truncateText(1));
    }

    // ---- SETUP TEXTS: tokens

    @Says(promise = 41, sentence = "A setup is an ASCII text")
    void bytesThatAreNotAscii() {
        for (int sign = 128; sign <= 255; sign++) {
            wrong("sound" + (char) sign + "200;", 1, 5);
        }
    }

    @Says(promise = 41, sentence = "Its tokens are words (maximal runs of the letters a to z),")
    void wordsAreMaximalRuns() {
        good("mic0 0 0 0;", 1);
        good("mic-1-2 3 4;", 1);
        good("spreading;spreading;", 2);
        wrong("mics 0 0 0 0;", 1, 0);
        wrong("micmic 0 0 0 0;", 1, 0);
        wrong("mi c 0 0 0 0;", 1, 0);
        wrong("spreadingz;", 1, 0);
        wrong("aspreading;", 1, 0);
        wrong("spreading;spreadin;", 1, 10);
        wrong("Spreading;", 1, 0);
        wrong("spreadinG;", 1, 0);
        for (String word : new String[] {"mic", "vehicle", "source", "sound", "ground", "noise", "spreading"}) {
            for (int index = 0; index < word.length(); index++) {
                String start = word.substring(0, index);
                wrong(start + "x" + word.substring(index + 1) + " 200;", 1, 0);
                wrong(start + word.substring(index + 1) + " 200;", 1, 0);
            }
        }
        wrong("sound`200;", 1, 5);
        wrong("sound{200;", 1, 5);
    }

    @Says(promise = 41, sentence = "numbers (maximal runs of the digits 0 to 9)")
    void numbersAreMaximalRuns() {
        good("sound200;ground5;noise5;", 3);
        TrackArray x = good("vehicle 12345 0 678;vehicle 9087 0 4096;source 0 0 0 1 1;source 1 0 0 1 1;mic0 0 0 0;", 5);
        c.due("of 12345 and 678", x.distance(0, 0, 0, false), 12363);
        c.due("of 9087 and 4096", x.distance(0, 1, 0, false), 9967);
        wrong("sound 20 0;", 2, 6);
        wrong("sound 200 0;", 1, 10);
        wrong("sound 200/;", 1, 9);
        wrong("sound 200:;", 1, 9);
        wrong("sound 200.5;", 1, 9);
    }

    @Says(promise = 41, sentence = "and the symbols ; and -.")
    void symbols() {
        good("ground-5;spreading;", 2);
        for (int sign = 33; sign <= 126; sign++) {
            boolean token = sign == ';' || sign == '-' || '0' <= sign && sign <= '9' || 'a' <= sign && sign <= 'z';
            if (!token) {
                wrong("spreading " + (char) sign, 1, 10);
                wrong("spreading" + (char) sign + ";", 1, 9);
            }
        }
        wrong("ground +5;", 1, 7);
        wrong("ground 5:", 1, 8);
    }

    @Says(promise = 41, sentence = "Spaces (byte 32) and line feeds (byte 10) may stand before, between "
            + "and behind tokens.")
    void spacesAndLineFeeds() {
        good("  \n\n  spreading \n ; \n ", 1);
        good("mic\n-\n1\n -\n \n2\n3\n4\n;", 1);
        good("\n", 0);
        good(" ", 0);
        for (int sign : new int[] {0, 8, 9, 11, 12, 13, 31, 33, 127, 160}) {
            wrong("spreading" + (char) sign + ";", 1, 9);
            wrong((char) sign + "spreading;", 1, 0);
            wrong("spreading;" + (char) sign, 1, 10);
        }
    }

    @Says(promise = 41, sentence = "Numbers may have any number of digits.")
    void numbersOfAnyLength() {
        TrackArray x = good("sound " + "0".repeat(480) + "340;ground -5;", 2);
        c.due("the ground", x.setGround(0), -5);
        good("sound" + "0".repeat(491) + "340;", 1);
        good("ground -" + "0".repeat(300) + ";", 1);
        wrong("sound" + "9".repeat(494) + ";", 2, 5);
        wrong("sound 4294967636;", 2, 6); // 340 more than 2 to the 32
        wrong("sound 18446744073709551956;", 2, 6); // 340 more than 2 to the 64
        wrong("ground -4294967295;", 2, 8);
        wrong("mic 0 0 2147483648 0;", 2, 8);
        wrong("mic 0 0 1" + "0".repeat(300) + " 0;", 2, 8);
    }

    @Says(promise = 41, sentence = "An integer is a number, or the symbol - and a number.")
    void integers() {
        c.due("5", good("ground 5;", 1).setGround(0), 5);
        c.due("-5", good("ground -5;", 1).setGround(0), -5);
        c.due("- 5", good("ground - 5;", 1).setGround(0), -5);
        c.due("-\n05", good("ground -\n05;", 1).setGround(0), -5);
        c.due("-0", good("ground -0;", 1).setGround(1), 0);
        wrong("ground --5;", 1, 8);
        wrong("ground - -5;", 1, 9);
        wrong("ground -;", 1, 8);
        wrong("ground 5-;", 1, 8);
        wrong("ground -x;", 1, 8);
    }

    // ---- SETUP TEXTS: statements

    @Says(promise = 41, sentence = "setup = { statement \";\" }")
    void setups() {
        good("", 0);
        good("spreading;", 1);
        good("noise 1;spreading;", 2);
        good("spreading;".repeat(50), 50);
        wrong(";", 1, 0);
        wrong("spreading;;", 1, 10);
        wrong("spreading spreading;", 1, 10);
        wrong("spreading", 1, 9);
    }

    @Says(promise = 41, sentence = "statement = \"mic\" X Y HEIGHT WEIGHT")
    void microphoneStatement() {
        TrackArray x = good("vehicle 0 0 100;source 0 0 0 1 1;mic -40 -10 200 7;", 3);
        c.due("distance", x.distance(0, 0, 0, false), 231);
        c.due("weight", x.setWeight(0, 0), 7);
        wrong("mic 1 2 3;", 1, 9);
        wrong("mic 1 2 3 4 5;", 1, 12);
        wrong("mic;", 1, 3);
    }

    @Says(promise = 41, sentence = "| \"vehicle\" X SPEED Y |")
    void vehicleStatement() {
        TrackArray x = good("vehicle -300 10 400;source 0 0 0 1 1;mic 0 0 0 0;", 3);
        c.due("at 0", x.distance(0, 0, 0, false), 500);
        c.due("at 30", x.distance(0, 0, 30, false), 400);
        c.due("it passes", x.passTime(0, 0), 30);
        TrackArray y = Scenes.rich();
        y.truncateText(0);
        Checks.loadText(y, "mic 5 0 0 0;vehicle 305 -15 100;vehicle 0 1 100;");
        c.due("the first one, where there was another, passes", y.passTime(0, 0), 20);
        c.due("the second one passes", y.passTime(1, 0), 5);
        wrong("vehicle 0 0;", 1, 11);
        wrong("vehicle 0 0 100 0;", 1, 16);
    }

    @Says(promise = 41, sentence = "| \"source\" VEHICLE OFFSET HEIGHT STRENGTH VALUE { VALUE } |")
    void sourceStatement() {
        TrackArray x = good("vehicle 9 0 100;vehicle 0 0 100;source 1 -40 75 3 4 -5 6;source 0 0 0 1 9;"
                + "mic 0 0 0 0;", 5);
        // 40 along, 100 across, 75 up: 131.2
        c.due("distance", x.distance(0, 0, 0, false), 131);
        int[] due = {12, -15, 18, 12};
        for (int time = 0; time < due.length; time++) {
            c.due("emitted(0, " + time + ")", x.emitted(0, time), due[time]);
        }
        c.due("emitted(1, 7) of one value", x.emitted(1, 7), 9);
        wrong(V + "source 0 0 0 1;", 1, 30);
        wrong(V + "source;", 1, 22);
    }

    @Says(promise = 41, sentence = "| \"sound\" SPEED |")
    void soundStatement() {
        c.due("sound", good("sound 250;", 1).setSound(100), 250);
        c.due("the last sound", good("sound 250;sound 251;", 2).setSound(100), 251);
        wrong("sound;", 1, 5);
        wrong("sound 250 250;", 1, 10);
    }

    @Says(promise = 41, sentence = "| \"ground\" PERCENT |")
    void groundStatement() {
        c.due("ground", good("ground 25;", 1).setGround(0), 25);
        c.due("the last ground", good("ground 25;ground -26;", 2).setGround(0), -26);
        wrong("ground;", 1, 6);
        wrong("ground 25 25;", 1, 10);
    }

    @Says(promise = 41, sentence = "| \"noise\" LEVEL |")
    void noiseStatement() {
        TrackArray x = good("noise 25;mic 0 0 0 0;", 2);
        x.makeRecording();
        c.due("the noise of the state 1", x.sample(0, 0), 16838 % 51 - 25);
        wrong("noise;", 1, 5);
        wrong("noise 25 25;", 1, 9);
    }

    @Says(promise = 41, sentence = "\"spreading\" switches it on.")
    void spreadingStatement() {
        c.due("on", good("spreading;", 1).setSpreading(false), true);
        c.due("on and on", good("spreading;spreading;", 2).setSpreading(false), true);
        c.due("not on", good("noise 1;", 1).setSpreading(false), false);
        TrackArray x = new TrackArray();
        x.setSpreading(true);
        Checks.loadText(x, "noise 1;");
        c.due("not on any more", x.setSpreading(false), false);
    }

    @Says(promise = 41, sentence = "| \"spreading\"")
    void spreadingStatementHasNoNumber() {
        good("spreading;", 1);
        wrong("spreading 1;", 1, 10);
        wrong("spreading -;", 1, 10);
    }

    @Says(promise = 41, sentence = "X, Y, SPEED (of a vehicle), OFFSET, VALUE and PERCENT are integers, "
            + "the others numbers,")
    void integersAndNumbers() {
        good("mic -1 -1 1 1;", 1);
        good("vehicle -1 -1 100;", 1);
        good(V + "source 0 -1 1 1 -1 -1;", 2);
        good("ground -1;", 1);
        wrong("vehicle 0 0 -100;", 2, 13); // an integer, though no y is below 100
        wrong("mic 0 0 -0 0;", 1, 8);
        wrong("mic 0 0 0 -0;", 1, 10);
        wrong(V + "source -0 0 0 1 1;", 1, 23);
        wrong(V + "source 0 0 -0 1 1;", 1, 27);
        wrong(V + "source 0 0 0 -1 1;", 1, 29);
        wrong("sound -200;", 1, 6);
        wrong("noise -0;", 1, 6);
    }

    @Says(promise = 41, sentence = "with the ranges given above;")
    void rangesInTexts() {
        range("mic ", -5000, 5000, " 0 0 0;");
        range("mic 0 ", -100, 99, " 0 0;");
        range("mic 0 0 ", 0, 500, " 0;");
        range("mic 0 0 0 ", 0, 9, ";");
        range("vehicle ", -20000, 20000, " 0 100;");
        range("vehicle 0 ", -50, 50, " 100;");
        range("vehicle 0 0 ", 100, 5000, ";");
        range(V + "source 0 ", -1000, 1000, " 0 1 1;");
        range(V + "source 0 0 ", 0, 500, " 1 1;");
        range(V + "source 0 0 0 ", 1, 10, " 1;");
        range(V + "source 0 0 0 1 ", -99, 99, ";");
        range(V + "source 0 0 0 1 5 ", -99, 99, " 6;");
        range("sound ", 100, 1000, ";");
        range("ground ", -90, 90, ";");
        range("noise ", 0, 99, ";");
    }

    private void range(String before, int least, int most, String after) {
        int statements = (before + after).replaceAll("[^;]", "").length();
        good(before + least + after, statements);
        good(before + most + after, statements);
        wrong(before + (most + 1) + after, 2, before.length());
        if (least != 0) {
            wrong(before + (least - 1) + after, 2, before.length() + (least < 0 ? 1 : 0));
        }
    }

    @Says(promise = 41, sentence = "VEHICLE is a vehicle of an earlier statement,")
    void vehicleOfAnEarlierStatement() {
        good(V + "source 0 0 0 1 1;", 2);
        good(V.repeat(4) + "source 3 0 0 1 1;", 5);
        good(V + S + V + "source 1 0 0 1 1;", 4);
        wrong(S, 2, 7);
        wrong(S + V, 2, 7);
        wrong(V + "source 1 0 0 1 1;" + V, 2, V.length() + 7);
        wrong(V.repeat(4) + "source 4 0 0 1 1;", 2, 4 * V.length() + 7);
        TrackArray x = Scenes.full();
        c.due("of a vehicle that was there before", Checks.loadText(x, S), -1);
        c.due("errorCode()", x.errorCode(), 2);
    }

    @Says(promise = 41, sentence = "and there are at most 16 VALUES.")
    void sixteenValues() {
        TrackArray x = good(V + "source 0 0 0 1" + VALUES16 + ";", 2);
        for (int time = 0; time <= 31; time++) {
            int value = time % 16 + 1;
            c.due("emitted(0, " + time + ")", x.emitted(0, time), value % 2 == 0 ? -value : value);
        }
        c.refused("a 17th value", () -> x.addValue(0, 1));
        TrackArray y = good(V + "source 0 0 0 1 1 2 3 4 5 6 7 8 9 10 11 12 13 14 15;", 2);
        c.due("a 16th value", y.addValue(0, 1), 16);
        wrong(V + "source 0 0 0 1" + VALUES16 + " 1;", 1, V.length() + 15 + VALUES16.length());
    }

    // ---- SETUP TEXTS: errors

    @Says(promise = 43, sentence = "Errors in a text: the parser reads the tokens from the first one on and stops "
            + "at the first token that is wrong.")
    void firstWrongToken() {
        wrong("sound 5 6 7 @", 2, 6);
        wrong("mic 9999 -999 @", 2, 4);
        wrong("mic x 9999;", 1, 4);
        wrong("@ sound 5;", 1, 0);
        wrong("spreading;noise 100;noise 200;;", 2, 16);
        wrong("noise 99;noise 100;noise 99;", 2, 15);
        wrong(M.repeat(8) + M + "sound 5;", 3, 8 * M.length());
        wrong("sound 5;" + M.repeat(9), 2, 6);
    }

    @Says(promise = 43, sentence = "The error position is the index of its first byte,")
    void positionOfTheFirstByte() {
        wrong("x", 1, 0);
        wrong("   xyz", 1, 3);
        wrong("spreading;\n\n xyz", 1, 13);
        wrong("sound 00001;", 2, 6);
        wrong("ground -00091;", 2, 8);
        wrong("spreading  12;", 1, 11);
        wrong("spreading;".repeat(49) + "spreading ", 1, 500);
        wrong("spreading;".repeat(49) + "spreading?", 1, 499);
    }

    @Says(promise = 43, sentence = "or the length of the text if the text ends too early.")
    void positionOfATextThatEndsTooEarly() {
        wrong("spreading", 1, 9);
        wrong("spreading  \n ", 1, 13);
        wrong("mic", 1, 3);
        wrong("mic ", 1, 4);
        wrong("mic 1 2 3", 1, 9);
        wrong("mic 1 2 3 4", 1, 11);
        wrong("ground -", 1, 8);
        wrong("ground -  ", 1, 10);
        wrong(V + "source 0 0 0 1 1", 1, 32);
        wrong(V + "source 0 0 0 1", 1, 30);
        wrong(V + "source 0 0 0 1" + VALUES16, 1, V.length() + 14 + VALUES16.length());
        wrong("spreading;noise", 1, 15);
        TrackArray x = written("noise 50;   ");
        x.truncateText(8);
        c.due("load() of a text that was cut", x.load(), -1);
        c.due("its errorPosition()", x.errorPosition(), 8);
    }

    @Says(promise = 42, sentence = "The error code is 1 if the token is not allowed there")
    void tokenThatIsNotAllowed() {
        wrong("-", 1, 0);
        wrong("7", 1, 0);
        wrong("word;", 1, 0);
        wrong("sound mic;", 1, 6);
        wrong("sound sound 5;", 1, 6);
        wrong("ground 1 2;", 1, 9);
        wrong("mic 0 0 0 0 mic", 1, 12);
        wrong("vehicle 0 0 100 -;", 1, 16);
        wrong(V + "source 0 0 0 1 1 x;", 1, 33);
        wrong(V + "source 0 0 0 1 1 -;", 1, 34);
        // the words that are full are not allowed within a statement either
        wrong(M.repeat(8) + "sound mic;", 1, 8 * M.length() + 6);
        wrong(M.repeat(8) + "spreading mic;", 1, 8 * M.length() + 10);
        // nor is a number where none may stand, whatever its range
        wrong("spreading 99999999999;", 1, 10);
        wrong("sound 200 99999;", 1, 10);
    }

    @Says(promise = 42, sentence = "(also a 17th VALUE)")
    void seventeenthValueOfAText() {
        String text = V + "source 0 0 0 1" + VALUES16;
        wrong(text + " 1;", 1, text.length() + 1);
        wrong(text + " 100;", 1, text.length() + 1);
        wrong(text + " -1;", 1, text.length() + 1);
        wrong(text + "  1 2 3;", 1, text.length() + 2);
        good(text + " ;", 2);
    }

    @Says(promise = 42, sentence = "or a byte belongs to no token,")
    void byteOfNoToken() {
        for (int sign = 0; sign <= 255; sign++) {
            boolean token = sign == ';' || sign == '-' || '0' <= sign && sign <= '9' || 'a' <= sign && sign <= 'z';
            if (!token && sign != 32 && sign != 10) {
                wrong("noise" + (char) sign, 1, 5);
                wrong("noise 5" + (char) sign, 1, 7);
            }
        }
    }

    @Says(promise = 42, sentence = "2 if a number is out of its range (of an integer with the symbol -, "
            + "at the number),")
    void numberOutOfItsRange() {
        wrong("noise 100;", 2, 6);
        wrong("ground 91;", 2, 7);
        wrong("ground -91;", 2, 8);
        wrong("ground -  91;", 2, 10);
        wrong("vehicle 0 0 -100;", 2, 13);
        wrong("vehicle 0 0 -1;", 2, 13);
        wrong("vehicle 0 0 0;", 2, 12);
        wrong(V + "source 1 0 0 1 1;", 2, 23);
        wrong(V + "source 0 0 0 0 1;", 2, 29);
        wrong(V + "source 0 0 0 1 1 2 3 100 @", 2, 37);
        wrong(V + "source 0 0 0 1 1 2 3 -100 @", 2, 38);
    }

    @Says(promise = 42, sentence = "and 3 for the word \"mic\", \"vehicle\" or \"source\" if there are as many "
            + "as possible already.")
    void wordsOfWhichThereAreTooMany() {
        good(M.repeat(8), 8);
        wrong(M.repeat(9), 3, 8 * M.length());
        wrong(M.repeat(8) + " mic", 3, 8 * M.length() + 1);
        wrong(M.repeat(8) + "mic @", 3, 8 * M.length());
        wrong(M.repeat(8) + "mics", 1, 8 * M.length());
        good(V.repeat(4), 4);
        wrong(V.repeat(5), 3, 4 * V.length());
        wrong(V.repeat(4) + "vehicle 99999 0 0;", 3, 4 * V.length());
        good(V + S.repeat(6), 7);
        wrong(V + S.repeat(7), 3, V.length() + 6 * S.length());
        wrong(V + S.repeat(6) + "source 1", 3, V.length() + 6 * S.length());
        good(V.repeat(4) + S.repeat(6) + M.repeat(8), 18);
        // what was there before the text does not count
        c.due("into a full array", Checks.loadText(Scenes.full(), V + S + M), 3);
    }

    // ---- promise 41

    private static TrackArray busy() {
        TrackArray x = Scenes.rich();
        x.truncateText(0);
        return x;
    }

    @Says(promise = 41, sentence = "Reads the text as a setup, which replaces everything except saved states;")
    void setupReplacesEverything() {
        TrackArray x = busy();
        c.due("load()", Checks.loadText(x, "mic 0 0 0 3;sound 200;"), 2);
        c.due("vehicles", x.count(0), 0);
        c.due("sources", x.count(1), 0);
        c.due("microphones", x.count(2), 1);
        c.due("the weight", x.setWeight(0, 3), 3);
        c.due("the record", x.measureRecord(0, 0, 0, 255), 0);
        c.due("the sound", x.setSound(200), 200);
        x.restore(0);
        c.due("the saved state has its vehicle", x.count(0), 1);
        c.due("the saved state has its recording", x.count(3), 1);
        c.refused("slot 1 is empty", () -> x.restore(1));
        // nothing of a text that was read before is left in the next one
        String all = V + V + S + "source 1 5 6 7 8 9 10;" + M + M + "sound 101;ground 9;noise 9;spreading;";
        Checks.loadText(x, all);
        Checks.loadText(x, all);
        c.due("emitted(1, 3)", x.emitted(1, 3), 8 * 7);
        c.due("the length of a pattern of 3 and 1", x.addValue(1, 1), 4);
        Checks.loadText(x, all + "?");
        c.due("load() of nothing", x.load(), 0);
        c.same("after it", Fingerprint.of(x), Fingerprint.of(restorable()));
    }

    /** A new array, but for the same saved state. */
    private static TrackArray restorable() {
        TrackArray x = busy();
        x.load();
        return x;
    }

    @Says(promise = 41, sentence = "what it does not set is as at first (also the focus, the cut, the state of the "
            + "random generator and the number of recordings).")
    void whatASetupDoesNotSet() {
        TrackArray x = busy();
        Checks.loadText(x, "mic 0 0 0 1;");
        c.due("the focus", x.sampleNumber(0, 7), 8);
        x.setSound(100);
        c.due("the focus, 100 away", x.sampleNumber(0, 7), 8);
        c.due("the cut", x.setCut(false), false);
        c.due("the recordings", x.count(3), 0);
        c.due("the ground", x.setGround(0), 0);
        c.due("spreading", x.setSpreading(false), false);
        x.makeRecording();
        c.due("the noise level", x.measureRecord(0, 1, 0, 255), 0);
        TrackArray y = busy();
        Checks.loadText(y, "noise 99;mic 0 0 0 1;");
        c.due("the sound", y.setSound(340), 340);
        y.makeRecording();
        c.due("the state of the generator", y.sample(0, 0), 16838 % 199 - 99);
        for (String text : new String[] {"", "\n", "  "}) {
            TrackArray z = Scenes.crammed();
            z.truncateText(0);
            z.setCut(true);
            z.focusOnDirection(5);
            c.due("load() of no statement", Checks.loadText(z, text), 0);
            for (int what = 0; what <= 3; what++) {
                c.due("count(" + what + ")", z.count(what), 0);
            }
            z.addMicrophone(5000, 0, 0, 1);
            c.due("the focus is the place at first", z.sampleNumber(0, 0), 15);
            c.due("the cut is off", z.setCut(true), false);
        }
    }

    @Says(promise = 41, sentence = "The text buffer is empty afterwards, also if there is an error.")
    void textIsEmptyAfterwards() {
        for (String text : new String[] {"", "spreading;", "spreading", "@", " ".repeat(500), "x".repeat(500)}) {
            TrackArray x = written(text);
            x.load();
            c.illegal("truncateText(1) after " + text, () -> x.truncateText(1));
            c.due("appendText after " + text, x.appendText(0x20202020), 4);
            c.due("load() then", x.load(), 0);
        }
    }

    @Says(promise = 41, sentence = "Returns the number of statements;")
    void numberOfStatements() {
        for (int amount = 0; amount <= 50; amount++) {
            good("spreading;".repeat(amount), amount);
        }
        good(V.repeat(4) + S.repeat(6) + M.repeat(8) + "sound 100;ground 1;noise 1;spreading;", 22);
    }

    @Says(promise = 41, sentence = "NONE if the text has an error (then everything else stays).")
    void everythingStaysAfterAnError() {
        String[] texts = {"sound 5;", "mic 0 0 0 0;vehicle 0 0 100;source 0 0 0 1 1;sound 100;ground 9;noise 5;"
                + "spreading", "noise 100;", "@", M.repeat(9), V + "source 0 0 0 1" + VALUES16 + " 1;"};
        for (String text : texts) {
            TrackArray x = busy();
            c.due("load() of " + text, Checks.loadText(x, text), TrackArray.NONE);
            c.same("after " + text, Fingerprint.ofAllButTheError(x), Fingerprint.ofAllButTheError(busy()));
        }
    }

    // ---- promises 42 and 43

    @Says(promise = 42, sentence = "Returns the error code of the latest load();")
    void codeOfTheLatestLoad() {
        TrackArray x = new TrackArray();
        Checks.loadText(x, "noise 100;");
        c.due("2", x.errorCode(), 2);
        c.due("2 again", x.errorCode(), 2);
        Checks.loadText(x, V.repeat(5));
        c.due("3", x.errorCode(), 3);
        Checks.loadText(x, "@");
        c.due("1", x.errorCode(), 1);
        Checks.write(x, "noise 100;");
        x.makeRecording();
        x.save(0);
        x.restore(0);
        c.due("1 before the next load()", x.errorCode(), 1);
        x.load();
        c.due("2 after it", x.errorCode(), 2);
    }

    @Says(promise = 42, sentence = "0 if its text had no error, or if there was no such call.")
    void noErrorCode() {
        TrackArray x = new TrackArray();
        c.due("no call", x.errorCode(), 0);
        Checks.write(x, "@@@@");
        c.due("no call yet", x.errorCode(), 0);
        x.load();
        Checks.loadText(x, "noise 99;");
        c.due("no error", x.errorCode(), 0);
        Checks.loadText(x, "@");
        x.load();
        c.due("no error of nothing", x.errorCode(), 0);
    }

    @Says(promise = 43, sentence = "Returns the error position of the latest load();")
    void positionOfTheLatestLoad() {
        TrackArray x = new TrackArray();
        Checks.loadText(x, "noise 100;");
        c.due("6", x.errorPosition(), 6);
        c.due("6 again", x.errorPosition(), 6);
        Checks.loadText(x, "@");
        c.due("0", x.errorPosition(), 0);
        Checks.write(x, "ground -91;");
        x.save(1);
        x.restore(1);
        c.due("0 before the next load()", x.errorPosition(), 0);
        x.load();
        c.due("8 after it", x.errorPosition(), 8);
    }

    @Says(promise = 43, sentence = "NONE if its text had no error, or if there was no such call.")
    void noErrorPosition() {
        TrackArray x = new TrackArray();
        c.due("no call", x.errorPosition(), TrackArray.NONE);
        Checks.write(x, "@@@@");
        c.due("no call yet", x.errorPosition(), TrackArray.NONE);
        x.load();
        Checks.loadText(x, "noise 99;");
        c.due("no error", x.errorPosition(), TrackArray.NONE);
        Checks.loadText(x, "@");
        x.load();
        c.due("no error of nothing", x.errorPosition(), TrackArray.NONE);
    }
}
