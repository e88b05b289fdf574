/** The promises 39 to 43. */
public final class TextsTest {
    private static final Checks C = new Checks("TextsTest");
    private static final String V = "vehicle 0 0 100;";
    private static final String S = "source 0 0 0 1 1;";
    private static final String M = "mic 0 0 0 0;";

    public static void main(String[] args) {
        appending();
        truncating();
        bytes();
        loading();
        replacing();
        blanks();
        ranges();
        wrongTokens();
        earlyEnds();
        noRoom();
        manyValues();
        longNumbers();
        errorsStay();
        longestText();
        C.end();
    }

    private static void appending() { // promise 39
        TrackArray x = new TrackArray();
        for (int length = 4; length <= 500; length += 4) {
            C.due("appendText", x.appendText(0x3b3b3b3b), length);
        }
        C.refused("appendText beyond 500", () -> x.appendText(0));
        C.due("truncateText(500)", x.truncateText(500), 500);
        C.due("truncateText(497)", x.truncateText(497), 497);
        C.refused("appendText beyond 500, to 501", () -> x.appendText(0));
        C.due("truncateText(497) again", x.truncateText(497), 497);
        C.due("truncateText(496)", x.truncateText(496), 496);
        C.due("appendText to 500", x.appendText(0), 500);
        x.load();
        C.due("appendText after load()", x.appendText(0), 4);
    }

    private static void truncating() { // promise 40
        TrackArray x = new TrackArray();
        Checks.write(x, "sound 500;  ");
        C.range("truncateText", 0, 0, new TrackArray()::truncateText);
        C.illegal("truncateText(13)", () -> x.truncateText(13));
        C.illegal("truncateText(-1)", () -> x.truncateText(-1));
        C.due("truncateText(12)", x.truncateText(12), 12);
        C.due("truncateText(10)", x.truncateText(10), 10);
        C.illegal("truncateText(11)", () -> x.truncateText(11));
        Checks.write(x, " ground 9;  ");
        C.due("load()", x.load(), 2);
        C.due("setSound", x.setSound(100), 500);
        C.due("setGround", x.setGround(0), 9);
        C.illegal("truncateText(1) after load()", () -> x.truncateText(1));
        Checks.write(x, "mic 1;;;");
        x.truncateText(0);
        C.due("load() of nothing left", x.load(), 0);
    }

    private static void bytes() { // promises 39 and 41
        TrackArray x = new TrackArray();
        x.appendText('s' << 24 | 'o' << 16 | 'u' << 8 | 'n');
        x.appendText('d' << 24 | ' ' << 16 | '1' << 8 | '2');
        x.appendText('3' << 24 | ';' << 16 | 0xff << 8 | ' ');
        C.due("load() with the byte 255", x.load(), -1);
        C.due("its error code", x.errorCode(), 1);
        C.due("its error position", x.errorPosition(), 10);
        x.appendText(0x80202020);
        C.due("load() with the byte 128", x.load(), -1);
        C.due("its error position", x.errorPosition(), 0);
        for (int each = 0; each <= 255; each++) {
            boolean blank = each == 32 || each == 10;
            TrackArray y = new TrackArray();
            y.appendText(each << 24 | 0x202020);
            C.due("load() of the byte " + each, y.load(), blank ? 0 : -1);
            C.due("error code of the byte " + each, y.errorCode(), blank ? 0 : 1);
            C.due("error position of the byte " + each, y.errorPosition(), blank ? -1 : 0);
            good("spreading" + (blank ? (char) each : ' ') + ";", 1);
        }
        for (int each = 0; each <= 255; each++) {
            if (each != 32 && each != 10 && each != ';') {
                wrong("spreading" + (char) each + ";", 1, 'a' <= each && each <= 'z' ? 0 : 9);
            }
        }
    }

    private static TrackArray good(String text, int statements) {
        TrackArray x = new TrackArray();
        C.due("load() of " + text, Checks.loadText(x, text), statements);
        C.due("errorCode() of " + text, x.errorCode(), 0);
        C.due("errorPosition() of " + text, x.errorPosition(), -1);
        return x;
    }

    private static void wrong(String text, int code, int position) {
        TrackArray x = new TrackArray();
        C.due("load() of " + text, Checks.loadText(x, text), -1);
        C.due("errorCode() of " + text, x.errorCode(), code);
        C.due("errorPosition() of " + text, x.errorPosition(), position);
        C.due("load() of nothing after " + text, x.load(), 0);
        C.due("errorCode() then", x.errorCode(), 0);
        C.due("errorPosition() then", x.errorPosition(), -1);
    }

    private static void loading() { // promise 41
        good("", 0);
        good(V, 1);
        TrackArray x = good("mic 10 -20 30 4; mic -5000 99 500 9;vehicle - 5 6 700; vehicle -20000 -50 5000;"
                + "source 1 -12 3 4 -5 6 -99; sound 200; ground -9; noise 2; spreading;", 9);
        C.due("vehicles", x.count(0), 2);
        C.due("sources", x.count(1), 1);
        C.due("microphones", x.count(2), 2);
        C.due("recordings", x.count(3), 0);
        C.due("setSpreading", x.setSpreading(false), true);
        C.due("setGround", x.setGround(0), -9);
        C.due("setSound", x.setSound(100), 200);
        C.due("emitted(0, 0)", x.emitted(0, 0), -20);
        C.due("emitted(0, 1)", x.emitted(0, 1), 24);
        C.due("emitted(0, 2)", x.emitted(0, 2), -396);
        C.due("emitted(0, 3)", x.emitted(0, 3), -20);
        // 20022 along, 5020 across, 27 up: 20641.7
        C.due("distance(0, 0, 0, false)", x.distance(0, 0, 0, false), 20641);
        C.due("passTime(0, 1)", x.passTime(0, 1), 0);
        C.due("passTime(0, 0)", x.passTime(0, 0), 2);
        C.due("setWeight(0, 0)", x.setWeight(0, 0), 4);
        C.due("setWeight(1, 0)", x.setWeight(1, 0), 9);
        TrackArray noisy = Scenes.noisy(1, 2);
        x.makeRecording();
        C.due("noise of level 2 from the state 1", x.sample(0, 0), noisy.sample(0, 0));
        // heights of 123 and 45, offset 6: sums and differences of them
        TrackArray z = good("mic 0 0 45 0;" + V + "source 0 6 123 7 8;", 3);
        C.due("heights direct", z.distance(0, 0, 0, false), (int) Math.sqrt(36 + 10000 + 78 * 78));
        C.due("heights reflected", z.distance(0, 0, 0, true), (int) Math.sqrt(36 + 10000 + 168 * 168));
        C.due("strength", z.emitted(0, 0), 56);
        TrackArray y = good("sound 200; sound 300; ground 5; ground -5; noise 9; noise 0; spreading; spreading;", 8);
        C.due("the last sound", y.setSound(100), 300);
        C.due("the last ground", y.setGround(0), -5);
        C.due("spreading", y.setSpreading(true), true);
    }

    private static void replacing() { // promise 41
        TrackArray x = Scenes.full();
        x.setSound(100);
        x.setGround(9);
        x.setSpreading(true);
        x.setNoise(1234, 56);
        x.setCut(true);
        x.focusOnDirection(7);
        x.makeRecording();
        int heard = x.sample(3, 200);
        x.save(1);
        C.due("a wrong text", Checks.loadText(x, "mic 0 0 0 0; sound 5;"), -1);
        C.due("everything stays", x.sample(3, 200), heard);
        C.due("everything stays, microphones", x.count(2), 8);
        C.due("everything stays, sound", x.setSound(100), 100);
        C.due("everything stays, recordings", x.count(3), 1);
        C.due("a text", Checks.loadText(x, "mic 0 0 0 1; mic 1 2 3 1;"), 2);
        for (int what : new int[] {0, 1, 3}) {
            C.due("count(" + what + ")", x.count(what), 0);
        }
        C.due("count(2)", x.count(2), 2);
        C.due("the record", x.measureRecord(0, 0, 0, 255), 0);
        C.due("sampleNumber: the place at first", x.sampleNumber(0, 0), 1);
        C.due("setCut", x.setCut(false), false);
        C.due("setSound", x.setSound(340), 340);
        C.due("setGround", x.setGround(0), 0);
        C.due("setSpreading", x.setSpreading(false), false);
        x.makeRecording();
        C.due("no noise", x.measureRecord(0, 0, 0, 255), 0);
        for (int k = 2; k < 8; k++) {
            x.addMicrophone(0, 0, 0, 1);
            C.due("no record of before", x.measureRecord(k, 0, 0, 255), 0);
        }
        C.due("noise alone", Checks.loadText(x, "noise 56; mic 0 0 0 1;"), 2);
        x.makeRecording();
        C.due("the state is 1 again", x.sample(0, 0), Scenes.noisy(1, 56).sample(0, 0));
        x.restore(1);
        C.due("saved states stay", x.sample(3, 200), heard);
        again();
    }

    /** Of a text that was read before nothing is left in the next one. */
    private static void again() {
        TrackArray x = new TrackArray();
        String all = V + V + S + "source 1 5 6 7 8 9 10;" + M + M + "sound 101; ground 9; noise 9; spreading;";
        C.due("load()", Checks.loadText(x, all), 10);
        C.due("load() again", Checks.loadText(x, all), 10);
        C.due("emitted(1, 3)", x.emitted(1, 3), 56);
        C.due("addValue(0, 1)", x.addValue(0, 1), 2);
        C.due("load() with an error", Checks.loadText(x, all + "x"), -1);
        C.due("load() of nothing", x.load(), 0);
        for (int what = 0; what <= 3; what++) {
            C.due("count(" + what + ")", x.count(what), 0);
        }
        C.due("setSound", x.setSound(340), 340);
        C.due("setGround", x.setGround(0), 0);
        C.due("setSpreading", x.setSpreading(false), false);
        x.addMicrophone(0, 0, 0, 1);
        x.makeRecording();
        C.due("no noise", x.measureRecord(0, 0, 0, 255), 0);
    }

    private static void blanks() { // promise 41
        good(" \n\n  spreading \n ; \n", 1);
        good("mic0 0 0 0;", 1);
        good("mic-1-2 3 4;", 1);
        good("mic\n-\n1\n-\n2\n3\n4\n;", 1);
        good("spreading;spreading;sound100;ground-0;noise00;", 5);
        TrackArray x = good("vehicle-7 -8 100;vehicle1 2 0100;", 2);
        x.addMicrophone(-23, 0, 0, 0);
        C.due("passTime(0, 0)", x.passTime(0, 0), 2);
        wrong("spreading\t;", 1, 9);
        wrong("spreading\r;", 1, 9);
        wrong("spread ing;", 1, 0);
        wrong("sound 1 00;", 2, 6);
        wrong("sound 200 00;", 1, 10);
        wrong("mic - - 1 0 0 0;", 1, 6);
    }

    /** Each number of a statement, at its least and greatest, and beyond. */
    private static void ranges() { // promises 41 to 43
        range("mic ", -5000, 5000, " 0 0 0;");
        range("mic 0 ", -100, 99, " 0 0;");
        range("mic 0 0 ", 0, 500, " 0;");
        range("mic 0 0 0 ", 0, 9, ";");
        range("vehicle ", -20000, 20000, " 0 100;");
        range("vehicle 0 ", -50, 50, " 100;");
        range("vehicle 0 0 ", 100, 5000, ";");
        range(V + V + "source ", 0, 1, " 0 0 1 1;");
        range(V + "source 0 ", -1000, 1000, " 0 1 1;");
        range(V + "source 0 0 ", 0, 500, " 1 1;");
        range(V + "source 0 0 0 ", 1, 10, " 1;");
        range(V + "source 0 0 0 1 ", -99, 99, ";");
        range(V + "source 0 0 0 1 5 ", -99, 99, " 6;");
        range("sound ", 100, 1000, ";");
        range("ground ", -90, 90, ";");
        range("noise ", 0, 99, ";");
        wrong("source 0 0 0 1 1;", 2, 7);
        wrong(S + V, 2, 7);
        // an integer with the symbol - is wrong at its number, even if only the sign is
        wrong("vehicle 0 0 -100;", 2, 13);
        wrong("vehicle 0 0 -  99;", 2, 15);
        // a number can't have the symbol
        wrong("mic 0 0 -1 0;", 1, 8);
        wrong("mic 0 0 0 -1;", 1, 10);
        wrong(V + "source -0 0 0 1 1;", 1, 23);
        wrong(V + "source 0 0 -0 1 1;", 1, 27);
        wrong(V + "source 0 0 0 -1 1;", 1, 29);
        wrong("sound -200;", 1, 6);
        wrong("noise -1;", 1, 6);
        // the first wrong token counts
        wrong("sound 5 6 7", 2, 6);
        wrong("mic 9999 -999 @", 2, 4);
        wrong("mic x 9999;", 1, 4);
    }

    private static void range(String before, int least, int most, String after) {
        int statements = 0;
        for (char sign : (before + after).toCharArray()) {
            statements += sign == ';' ? 1 : 0;
        }
        good(before + least + after, statements);
        good(before + most + after, statements);
        wrong(before + (most + 1) + after, 2, before.length());
        if (least > 0) {
            wrong(before + (least - 1) + after, 2, before.length());
        } else if (least < 0) {
            wrong(before + (least - 1) + after, 2, before.length() + 1);
            wrong(before + "- 0" + (1 - least) + after, 2, before.length() + 2);
        }
    }

    private static void wrongTokens() { // promises 41 to 43
        wrong(";", 1, 0);
        wrong("-", 1, 0);
        wrong("7", 1, 0);
        wrong("mics 1;", 1, 0);
        wrong("mi 1;", 1, 0);
        wrong("vehicles;", 1, 0);
        wrong("vehicld 0 0 100;", 1, 0);
        wrong("sources;", 1, 0);
        wrong("soun 200;", 1, 0);
        wrong("grounds 2;", 1, 0);
        wrong("noisy 2;", 1, 0);
        wrong("spreadinh;", 1, 0);
        wrong("xspreading;", 1, 0);
        wrong("Mic 0 0 0 0;", 1, 0);
        wrong("miC 0 0 0 0;", 1, 0);
        wrong("spreading;;", 1, 10);
        wrong("spreading 1;", 1, 10);
        wrong("spreading spreading;", 1, 10);
        wrong("sound;", 1, 5);
        wrong("sound mic;", 1, 6);
        wrong("ground -;", 1, 8);
        wrong("ground - x;", 1, 9);
        wrong("ground --1;", 1, 8);
        wrong("ground 1 2;", 1, 9);
        wrong("mic 0 0 0;", 1, 9);
        wrong("mic 0 0 0 0 0;", 1, 12);
        wrong("mic 0 0 0 0 mic", 1, 12);
        wrong("vehicle 0 0;", 1, 11);
        wrong("vehicle 0 0 100 -;", 1, 16);
        wrong(V + "source 0 0 0 1;", 1, 30);
        wrong(V + "source 0 0 0 1 1 x;", 1, 33);
        wrong(V + "source 0 0 0 1 1 -;", 1, 34);
        wrong(V + "source x;", 1, 23);
        wrong("noise 5.5;", 1, 7);
        wrong("noise +5;", 1, 6);
        wrong("noise 5,", 1, 7);
        wrong("sound `;", 1, 6);
        wrong("sound {;", 1, 6);
        wrong("sound /;", 1, 6);
        wrong("sound :;", 1, 6);
    }

    private static void earlyEnds() { // promises 41 to 43
        String text = V + "source 0 -1 0 1 -1 1;";
        for (int length = 0; length < text.length(); length++) {
            String word = text.substring(0, length);
            boolean whole = length == 0 || length == V.length();
            boolean cutWord = length > 0 && length < 7 || length > 16 && length < 22;
            boolean cutNumber = length == 13 || length == 14;
            if (whole) {
                good(word, length == 0 ? 0 : 1);
            } else if (cutWord) {
                wrong(word, 1, length < 7 ? 0 : 16);
            } else if (cutNumber) {
                wrong(word, 2, 12);
            } else {
                wrong(word, 1, length);
            }
        }
        wrong("spreading", 1, 9);
        wrong("spreading  \n ", 1, 13);
        wrong("ground -  ", 1, 10);
        wrong("mic 1 2 3 4", 1, 11);
    }

    private static void noRoom() { // promises 41 to 43
        good(M.repeat(8), 8);
        wrong(M.repeat(9), 3, 8 * M.length());
        wrong(M.repeat(8) + "mic", 3, 8 * M.length());
        wrong(M.repeat(8) + " mic @", 3, 8 * M.length() + 1);
        wrong(M.repeat(8) + "mics", 1, 8 * M.length());
        good(V.repeat(4), 4);
        wrong(V.repeat(5), 3, 4 * V.length());
        wrong(V.repeat(4) + "vehicle x", 3, 4 * V.length());
        good(V + S.repeat(6), 7);
        wrong(V + S.repeat(7), 3, V.length() + 6 * S.length());
        wrong(V + S.repeat(6) + "source 1", 3, V.length() + 6 * S.length());
        good(V.repeat(4) + S.repeat(6) + M.repeat(8) + "noise 1;", 19);
        // what was there before does not count
        C.due("into a full array", Checks.loadText(Scenes.full(), V + S + M), 3);
    }

    private static void manyValues() { // promises 41 to 43
        String values = " 1 -2 3 -4 5 -6 7 -8 9 -10 11 -12 13 -14 15 -16";
        String text = V + "source 0 0 0 1" + values;
        TrackArray x = good(text + ";", 2);
        for (int t = 0; t <= 255; t++) {
            int value = t % 16 + 1;
            C.due("emitted(0, " + t + ")", x.emitted(0, t), value % 2 == 0 ? -value : value);
        }
        C.refused("a 17th value", () -> x.addValue(0, 1));
        wrong(text + " 1;", 1, text.length() + 1);
        wrong(text + " -1;", 1, text.length() + 1);
        wrong(text + " 100;", 1, text.length() + 1);
        wrong(text + "  x;", 1, text.length() + 2);
        wrong(text + " ", 1, text.length() + 1);
        TrackArray y = good(V + "source 0 0 0 1 5;" + "source 0 0 0 2 6 7;", 3);
        C.due("emitted(0, 1)", y.emitted(0, 1), 5);
        C.due("emitted(1, 1)", y.emitted(1, 1), 14);
        C.due("addValue(1, 1)", y.addValue(1, 1), 3);
    }

    private static void longNumbers() { // promises 41 to 43
        good("sound " + "0".repeat(400) + "340;", 1);
        wrong("sound " + "9".repeat(400) + ";", 2, 6);
        wrong("sound 4294967636;", 2, 6);
        wrong("sound 18446744073709551956;", 2, 6);
        wrong("ground -4294967295;", 2, 8);
        wrong("mic 0 0 2147483648 0;", 2, 8);
        wrong("mic 0 0 10000000000000000000000000000000 0;", 2, 8);
        TrackArray x = good("ground -" + "0".repeat(300) + ";", 1);
        C.due("minus 0", x.setGround(1), 0);
    }

    private static void errorsStay() { // promises 42 and 43
        TrackArray x = new TrackArray();
        C.due("errorCode() at first", x.errorCode(), 0);
        C.due("errorPosition() at first", x.errorPosition(), -1);
        Checks.loadText(x, "noise 100;");
        x.makeRecording();
        x.save(0);
        x.restore(0);
        C.due("errorCode() later", x.errorCode(), 2);
        C.due("errorPosition() later", x.errorPosition(), 6);
        Checks.write(x, "@@@@");
        C.due("errorCode() before load()", x.errorCode(), 2);
        x.load();
        C.due("errorCode() after it", x.errorCode(), 1);
        C.due("errorPosition() after it", x.errorPosition(), 0);
        Checks.loadText(x, "noise 99;");
        x.restore(0);
        C.due("errorCode() of the latest", x.errorCode(), 0);
        C.due("errorPosition() of the latest", x.errorPosition(), -1);
    }

    private static void longestText() { // promise 41
        good("spreading;".repeat(50), 50);
        wrong(";".repeat(500), 1, 0);
        wrong("spreading;".repeat(49) + "spreading-", 1, 499);
        wrong("spreading;".repeat(49) + "sound 1000", 1, 500);
        good("spreading;".repeat(49) + "sound100;\n", 50);
        good(" ".repeat(500), 0);
    }
}
