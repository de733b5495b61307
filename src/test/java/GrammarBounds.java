/** Boundary cases under "Terms", 4: the text format. */
final class GrammarBounds {
    private static final String HEAD = "hall 2 5 4 9";
    private static final String BOTH = HEAD + ";kind a 5 1 9;program p";
    private static final int LINE = BOTH.length() + 1;

    private GrammarBounds() {
    }

    static void look() {
        Document.noBoundary("4. Text format");
        tokens();
        grammar();
        errors();
        codes();
    }

    private static void error(String text, int code, int position) {
        Checks.textError(text, code + " " + position);
    }

    /** The error is at the last byte of the text. */
    private static void lastByte(String text, int code) {
        error(text, code, text.length() - 1);
    }

    private static void tokens() {
        Document.holds("The input buffer holds at most 700 bytes.", () -> {
            FadingSignals x = new FadingSignals();
            Checks.append(x, BOTH + " ".repeat(690 - BOTH.length()) + ";program q");
            Checks.due("700 bytes", x.buffered(), 700);
            Checks.due("one append more", x.append(0, 0, 0, 0, 0), -1);
            Checks.due("still 700 bytes", x.buffered(), 700);
            Checks.due("the last of them are parsed", x.load(700), 2);
            Checks.due("the last byte is kept", Checks.find(x, false, "q"), 1);
        });
        Document.holds("Tokens are words (1 to 7 lower-case letters), numbers (1 to 3 digits) and the semicolon.",
                () -> {
            Checks.textFine(HEAD + ";kind a 5 1 9;kind z 5 1 9;kind azazaza 5 1 9;program zzzzzzz");
            Checks.textFine(HEAD + ";kind a 5 01 009;program p;send p a 0;send p a 99;send p a 999");
            error(HEAD + ";kind azazazaz 5 1 9", 1, 18);
            error(HEAD + ";kind a 0005 1 9", 1, 20);
            error(HEAD + ";kind A 5 1 9", 1, 18);
            error(HEAD + ";kind Z 5 1 9", 1, 18);
            lastByte(HEAD + ":", 1);
            lastByte(HEAD + "<", 1);
        });
        Document.holds("Blanks (byte 32) only separate tokens.", () -> {
            Checks.textFine("  hall  2   5 4    9  ;   kind a 5 1 9 ; program   p   ");
            Checks.textFine("hall2 5 4 9;kind a5 1 9;program p;handle p a3mask a");
            error("hal l 2 5 4 9", 1, 0);
            error(HEAD + ";pro gram p", 1, 13);
            error("hall 2 5 4 1 2", 1, 13);
            for (char other : new char[] {0, 9, 10, 13, 31, 33, 160, 255}) {
                error("hall" + other + "2 5 4 9", 1, 4);
            }
        });
        Document.holds("A run of letters ends at the first byte that is not a lower-case letter;", () -> {
            Checks.textFine(HEAD + ";kind a5 1 9;program p;handle p a5raise a p7mask a;send p a9");
            for (char other : new char[] {0, '@', 'A', 'Z', '[', '`', '{', 127, 128, 'a' + 128, 'z' + 128, 255}) {
                error(HEAD + ";kind az" + other + " 5 1 9", 1, 20);
            }
        });
        Document.holds("a run of digits ends at the first byte that is not a digit;", () -> {
            Checks.textFine("hall 2 5 4 9;kind a 5 1 9;program p;handle p a 1mask a drop a;send p a 5;send p a 6 ");
            for (char other : new char[] {0, '/', ':', '.', '-', '0' + 128, '9' + 128, 255}) {
                lastByte("hall 2 5 4 9" + other, 1);
            }
            error("hall 2 5 4x", 1, 10);
        });
        Document.holds("leading zeros do not matter for its value.", () -> {
            FadingSignals x = Checks.loaded("hall 002 005 01 09;kind a 099 000 010;program p;handle p a 07 raise a p 08"
                    + ";send p a 009;send p a 000");
            Checks.due("settings", x.setting(0) + " " + x.setting(1) + " " + x.setting(2) + " " + x.setting(3),
                    "2 5 1 9");
            Checks.due("a kind", x.kind(0, 0) + " " + x.kind(0, 1) + " " + x.kind(0, 2), "99 0 10");
            Checks.due("a handler", x.handler(0, 0, 0) + " " + x.handler(0, 0, 13), "7 8");
            Checks.due("values", x.queue(0, 0, 3) + " " + x.queue(0, 1, 3), "9 0");
            error("hall 000 5 4 9", 2, 5);
            error("hall 005 5 4 9", 2, 5);
            error("hall 0002 5 4 9", 1, 5);
        });
    }

    private static void grammar() {
        Document.noBoundary("The grammar, with literals in quotes:");
        Document.holds("text = \"hall\" DEPTH NEST REST CAP {\";\" line}", () -> {
            Checks.textFine(HEAD);
            Checks.textFine(HEAD + ";kind a 5 1 9");
            error("kind a 5 1 9", 1, 0);
            error(HEAD + ";", 1, 13);
            error(HEAD + ";;kind a 5 1 9", 1, 13);
            error(HEAD + " kind a 5 1 9", 1, 13);
            error(HEAD + ";hall 2 5 4 9", 1, 13);
            lastByte(BOTH + ";program q p", 1);
        });
        Document.holds("line = \"kind\" NAME URGENCY FADE KEEP | \"program\" NAME | \"handle\" PROGRAM KIND TICKS"
                + " {act} | \"hide\" PROGRAM KIND | \"send\" PROGRAM KIND VALUE", () -> {
            for (String line : new String[] {"kind b 1 2 3", "program q", "handle p a 1", "hide p a", "send p a 1"}) {
                Checks.textFine(BOTH + ";" + line);
                lastByte(BOTH + ";" + line + " 4", 1);
                Checks.textFine(BOTH + ";" + line + ";program r");
            }
        });
        Document.holds("act = \"raise\" KIND PROGRAM PLUS | \"mask\" KIND | \"unmask\" KIND | \"drop\" KIND", () -> {
            for (String act : new String[] {"", " raise a p 0", " mask a", " unmask a", " drop a"}) {
                Checks.textFine(BOTH + ";handle p a 1" + act);
                Checks.textFine(BOTH + ";handle p a 1" + act + " drop a");
                lastByte(BOTH + ";handle p a 1" + act + " 4", 1);
            }
        });
        Document.holds("NAME is any word (also one that is quoted here);", () -> {
            String[] quoted = {"hall", "kind", "program", "handle", "hide", "send", "raise", "mask", "unmask", "drop"};
            for (String name : quoted) {
                String text = HEAD + ";kind " + name + " 5 1 9;program " + name + ";hide " + name + " " + name
                        + ";send "
                        + name + " " + name + " 7;handle " + name + " " + name + " 5";
                FadingSignals x = Checks.loaded(text + " raise " + name + " " + name + " 3 mask " + name + " unmask "
                        + name
                        + " drop " + name);
                Checks.due(name, Checks.find(x, true, name) + Checks.find(x, false, name) + x.handler(0, 0, 1), 4);
            }
        });
        Document.holds("the NAMES of kinds are different, and those of programs.", () -> {
            Checks.textFine(HEAD + ";kind a 5 1 9;program a;kind b 5 1 9;program b");
            error(HEAD + ";kind a 5 1 9;kind a 5 1 9", 3, 31);
            error(HEAD + ";program a;program a", 3, 31);
            Checks.textFine(HEAD + ";kind a 5 1 9;kind aa 5 1 9;kind ab 5 1 9;kind ba 5 1 9;kind b 5 1 9");
        });
        Document.holds("PROGRAM and KIND are NAMES of earlier lines.", () -> {
            error(HEAD + ";kind a 5 1 9;hide p a;program p", 3, 31);
            error(HEAD + ";program p;hide p a;kind a 5 1 9", 3, 30);
            error(HEAD + ";program p;handle p a 1 raise a p 0;kind a 5 1 9", 3, 32);
            error(BOTH + ";handle p a 1 mask b;kind b 5 1 9", 3, LINE + 18);
            Checks.textFine(BOTH + ";handle p a 1 raise a p 0");
        });
        Document.holds("There are at most 8 kinds and 6 programs, and 12 send lines.", () -> {
            String full = fullText();
            Checks.textFine(full);
            FadingSignals x = Checks.loaded(full);
            Checks.due("all of them", x.count(0) + " " + x.count(1) + " " + x.count(4), "8 6 12");
            error(full + ";kind i 1 0 1", 4, full.length() + 1);
            error(full + ";program i", 4, full.length() + 1);
            error(full + ";send a a 1", 4, full.length() + 1);
        });
        Document.holds("A hide line puts a kind into the mask of a program, which does not have it.", () -> {
            FadingSignals x = Checks.loaded(fullText() + ";hide a a;hide a h;hide f a;hide f h");
            Checks.due("the first and the last", x.program(0, 2) + " " + x.program(1, 2) + " " + x.program(5, 2),
                    "129 0 129");
            error(BOTH + ";hide p a;hide p a", 3, LINE + 16);
        });
        Document.holds("A send line sends a signal at the time 0, as it is read (so one can be lost by a full"
                + " queue).", () -> {
            FadingSignals x = Checks.loaded("hall 1 0 1 1;kind a 9 0 9;kind b 8 0 9;program p;send p b 0;send p a 0"
                    + ";send p b 0;program q;send q b 0");
            Checks.due("lost by a full queue as they are read", Checks.ends(x), "2:3 0:3");
            Checks.due("at the time 0", x.end(0, 2) + x.end(1, 2) + x.queue(0, 0, 4) + x.count(3), 0);
            Checks.due("the others", Checks.queue(x, 0) + "/" + Checks.queue(x, 1), "1/3");
        });
    }

    /** Eight kinds and six programs, both from a on, and twelve send lines. */
    private static String fullText() {
        StringBuilder text = new StringBuilder(HEAD);
        for (char name = 'a'; name <= 'h'; name++) {
            text.append(";kind ").append(name).append(" 5 1 9");
        }
        for (char name = 'a'; name <= 'f'; name++) {
            text.append(";program ").append(name);
        }
        return text.append(";send f h 9".repeat(12)).toString();
    }

    private static void errors() {
        Document.holds("Parsing stops at the first token, from the left, at which an error is found;", () -> {
            error("hall 5 x 0 13", 2, 5);
            error("hall 2 x 0 13", 1, 7);
            error(HEAD + ";kind a 5 1 9;kind a 0 21 x;?", 3, 31);
            error(HEAD + ";kind a 5 21 x;?", 2, 22);
            error(BOTH + ";handle p a 0 mask b zap", 2, LINE + 11);
            error(BOTH + ";handle p a 1 mask b zap", 3, LINE + 18);
            error(fullText() + ";send zzzzzzzz", 4, fullText().length() + 1);
        });
        Document.holds("if several errors apply to that token, the smallest code is reported.", () -> {
            error("hall 1000 5 4 9", 1, 5);
            error(BOTH + ";send p a 1000", 1, LINE + 9);
            error(BOTH + ";hide pppppppp a", 1, LINE + 5);
            error(BOTH + ";hide p aaaaaaaa", 1, LINE + 7);
            error(BOTH + ";handle p a 1 mask aaaaaaaa", 1, LINE + 18);
            error(BOTH + ";handle p a 1" + " mask a".repeat(4) + " masks", 1, LINE + 41);
            error(BOTH + ";handle p a 1" + " mask a".repeat(4) + " 7", 1, LINE + 41);
            error(fullText() + ";sends", 1, fullText().length() + 1);
        });
        Document.holds("The position of an error is the index of the token's first byte;", () -> {
            error("?", 1, 0);
            error("   zzzzzzzzzz 5", 1, 3);
            error("hall    77 5 4 9", 2, 8);
            error(BOTH + ";hide   qqq a", 3, LINE + 7);
            error(fullText() + "; send f h 9", 4, fullText().length() + 2);
        });
        Document.holds("at the end of the text it is the number of bytes that are parsed.", () -> {
            error("", 1, 0);
            error(" ", 1, 1);
            error("hall 2 5 4", 1, 10);
            error("hall 2 5 4   ", 1, 13);
            error(HEAD + ";", 1, 13);
            error(HEAD + ";  ", 1, 15);
            FadingSignals x = new FadingSignals();
            Checks.append(x, HEAD);
            Checks.argument("the first 11 bytes alone", () -> x.load(11));
            Checks.due("their number", x.errorPosition(), 11);
        });
    }

    private static void codes() {
        Document.holds("1: a byte that starts no token,", () -> {
            for (int other = 0; other < 256; other++) {
                boolean starts = other == 32 || other == ';' || other >= '0' && other <= '9'
                        || other >= 'a' && other <= 'z';
                if (!starts) {
                    error(HEAD + ";" + (char) other, 1, 13);
                    error((char) other + HEAD, 1, 0);
                }
            }
        });
        Document.holds("a word of 8 or more letters,", () -> {
            Checks.textFine(HEAD + ";kind abcdefg 5 1 9");
            error(HEAD + ";kind abcdefgh 5 1 9", 1, 18);
            error(HEAD + ";kind " + "z".repeat(600) + " 5 1 9", 1, 18);
            error(HEAD + ";programs p", 1, 13);
            error("hallhall 2 5 4 9", 1, 0);
        });
        Document.holds("a number of 4 or more digits,", () -> {
            Checks.textFine(HEAD + ";kind a 005 000 009");
            error(HEAD + ";kind a 0005 0 9", 1, 20);
            error(HEAD + ";kind a 5 " + "0".repeat(600) + " 9", 1, 22);
            error(HEAD + ";kind a 5 1 4294967297", 1, 24);
        });
        Document.holds("a token that the grammar does not allow here,", GrammarBounds::eachTokenReplaced);
        Document.holds("or the end of the text where a line is not complete.", () -> {
            String[] lines = {"kind b 1 2 3", "program q", "handle p a 1 raise a p 0 mask a unmask a drop a",
                    "hide p a",
                "send p a 1"};
            for (String line : lines) {
                String text = BOTH + ";" + line;
                for (int end = BOTH.length() + 1; end < text.length(); end++) {
                    String rest = text.substring(end).trim();
                    boolean cut = Character.isLetter(text.charAt(end)) && Character.isLetter(text.charAt(end - 1));
                    boolean whole = line.startsWith("handle") && rest.matches("(raise .*|mask .*|unmask .*|drop .*)");
                    if (!cut && whole) {
                        Checks.textFine(text.substring(0, end));
                    } else if (!cut) {
                        error(text.substring(0, end), 1, end);
                    }
                }
                Checks.textFine(text);
            }
        });
        Document.holds("2: a number out of its bounds.", GrammarBounds::eachNumber);
        Document.holds("3: a NAME that is told already;", () -> {
            error(BOTH + ";kind a 0 0 0", 3, LINE + 5);
            error(BOTH + ";program p", 3, LINE + 8);
            error(fullText().replace(";kind h", ";kind a"), 3, HEAD.length() + 7 * 13 + 6);
            error(fullText().replace(";program f", ";program a"), 3, HEAD.length() + 8 * 13 + 5 * 10 + 9);
            Checks.textFine(BOTH + ";kind p 5 1 9;program a");
        });
        Document.holds("a PROGRAM or KIND that is none;", () -> {
            String[] lines = {"handle P K 1", "handle p a 1 raise K P 1", "handle p a 1 mask K",
                    "handle p a 1 unmask K",
                "handle p a 1 drop K", "hide P K", "send P K 1"};
            for (String line : lines) {
                String text = BOTH + ";" + line;
                Checks.textFine(text.replace("K", "a").replace("P", "p"));
                int kind = text.indexOf("K");
                for (String none : new String[] {"b", "p", "aa"}) {
                    error(text.replace("P", "p").replace("K", none), 3, kind);
                }
                int program = text.indexOf("P");
                for (String none : new String[] {"q", "a", "pp"}) {
                    if (program >= 0) {
                        error(text.replace("K", "a").replace("P", none), 3, program);
                    }
                }
            }
            error(HEAD + ";hide p a", 3, 18);
            error(HEAD + ";program p;send p a 1", 3, 30);
        });
        Document.holds("the KIND of a handle line for which the PROGRAM has a handler already,", () -> {
            error(BOTH + ";handle p a 1;handle p a 1", 3, LINE + 22);
            error(BOTH + ";handle p a 20 mask a;kind b 5 1 9;handle p b 1;handle p a 0", 3, LINE + 56);
            Checks.textFine(BOTH + ";kind b 5 1 9;program q;handle p a 1;handle p b 1;handle q a 1;handle q b 1");
        });
        Document.holds("or of a hide line that is in its mask already.", () -> {
            error(BOTH + ";hide p a;hide p a", 3, LINE + 16);
            error(BOTH + ";kind b 5 1 9;hide p a;hide p b;hide p a", 3, LINE + 38);
            Checks.textFine(BOTH + ";kind b 5 1 9;program q;hide p a;hide p b;hide q a;hide q b");
            Checks.textFine(BOTH + ";handle p a 1 mask a;hide p a");
        });
        Document.holds("4: the first word of a ninth kind,", () -> tooMany(";kind ", 8, " 5 1 9"));
        Document.holds("seventh program", () -> tooMany(";program ", 6, ""));
        Document.holds("or 13th send line;", () -> {
            for (int lines = 11; lines <= 12; lines++) {
                Checks.textFine(BOTH + ";send p a 1".repeat(lines));
            }
            String text = BOTH + ";send p a 1".repeat(12);
            for (String rest : new String[] {"", " p a 1", " 5", " zz", ";"}) {
                error(text + ";send" + rest, 4, text.length() + 1);
            }
        });
        Document.holds("the first word of a fifth act.", () -> {
            String text = BOTH + ";handle p a 1 raise a p 0 mask a unmask a";
            Checks.textFine(text);
            Checks.textFine(text + " drop a");
            for (String act : new String[] {"raise", "mask", "unmask", "drop"}) {
                for (String rest : new String[] {"", " a p 1", " 5", ";"}) {
                    error(text + " drop a " + act + rest, 4, text.length() + 8);
                }
            }
            Checks.textFine(text + " drop a;kind b 5 1 9;handle p b 1 drop a drop a drop a drop b");
        });
    }

    private static void tooMany(String line, int most, String end) {
        StringBuilder text = new StringBuilder(HEAD);
        for (int i = 0; i < most; i++) {
            Checks.textFine(text.toString());
            text.append(line).append((char) ('a' + i)).append(end);
        }
        Checks.textFine(text.toString());
        for (String rest : new String[] {"z" + end, "a" + end, "5", "", ";"}) {
            error(text + line + rest, 4, text.length() + 1);
        }
    }

    /** Each token of a text is replaced by one of each sort that may not stand there. */
    private static void eachTokenReplaced() {
        String[] tokens = (BOTH + ";handle p a 1 raise a p 0 mask a;hide p a;send p a 1").replace(";",
                " ; ").split(" +");
        for (int i = 0; i < tokens.length; i++) {
            boolean number = tokens[i].matches("[0-9]+");
            boolean mark = tokens[i].equals(";");
            boolean act = tokens[i].matches("raise|mask|unmask|drop");
            boolean name = tokens[i].length() == 1 && !number && !mark;
            StringBuilder before = new StringBuilder();
            StringBuilder rest = new StringBuilder();
            for (int j = 0; j < tokens.length; j++) {
                if (j < i) {
                    before.append(tokens[j]).append(' ');
                } else if (j > i) {
                    rest.append(' ').append(tokens[j]);
                }
            }
            int position = before.length();
            if (!number) {
                error(before + "1" + rest, 1, position);
            }
            if (!mark) {
                // A semicolon in place of an act ends the line well; what stands behind it is no line.
                error(before + ";" + rest, 1, act ? position + 2 : position);
            }
            if (!name) {
                error(before + "zz" + rest, 1, position);
            }
            if (!name && !number && !mark) {
                eachLetterReplaced(before.toString(), tokens[i], rest.toString());
            }
        }
    }

    /** A quoted word with another letter at each place, with one more and with one less, is another word. */
    private static void eachLetterReplaced(String before, String word, String rest) {
        for (int at = 0; at < word.length(); at++) {
            char other = word.charAt(at) == 'z' ? 'a' : (char) (word.charAt(at) + 1);
            error(before + word.substring(0, at) + other + word.substring(at + 1) + rest, 1, before.length());
            error(before + word.substring(0, at) + word.substring(at + 1) + rest, 1, before.length());
            error(before + word.substring(0, at) + 'x' + word.substring(at) + rest, 1, before.length());
        }
        error(before + word + 's' + rest, 1, before.length());
    }

    /** Each number of a text at its bounds, and beyond them. */
    private static void eachNumber() {
        String text = "hall A B C D;kind a E F G;program p;handle p a H raise a p I;send p a J";
        int[][] bounds = {{1, 4}, {0, 50}, {1, 50}, {1, 12}, {1, 99}, {0, 20}, {1, 200}, {1, 20}, {0, 999}, {0, 999}};
        for (int i = 0; i < bounds.length; i++) {
            String mark = String.valueOf((char) ('A' + i));
            String others = text.replace(mark, "#").replaceAll("[A-J]", "1");
            Checks.textFine(others.replace("#", "" + bounds[i][0]));
            Checks.textFine(others.replace("#", "" + bounds[i][1]));
            int position = others.indexOf('#');
            if (bounds[i][0] > 0) {
                error(others.replace("#", "" + (bounds[i][0] - 1)), 2, position);
            }
            error(others.replace("#", "" + (bounds[i][1] + 1)), bounds[i][1] < 999 ? 2 : 1, position);
            if (bounds[i][1] < 999) {
                error(others.replace("#", "999"), 2, position);
            }
        }
    }
}
