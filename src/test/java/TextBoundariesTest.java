import java.util.List;
import java.util.function.IntPredicate;

/**
 * Promises 2 to 4 at their boundaries: the length of the text, the characters, the tokens, the
 * numbers, the counts of objects and of references, and the error position.
 */
public final class TextBoundariesTest extends Checks {
    private static final int LONGEST = 160;
    /** Ten objects: one agent and nine keys. */
    private static final String TEN_OBJECTS = "agent0 0;" + "key0 0;".repeat(9);
    /** Ten references of agent 0 to the objects 0 to 9. */
    private static final String TEN_HOLDS = holds(10);
    /** One object of each kind, and a second agent. */
    private static final String EACH_KIND = "agent0 0;box0 0 0;key0 0;factory0 0;agent0 0;";

    private static String holds(int count) {
        StringBuilder text = new StringBuilder();
        for (int object = 0; object < count; object++) {
            text.append("hold0 ").append(object).append(';');
        }
        return text.toString();
    }

    private static String spaces(int count) {
        return " ".repeat(count);
    }

    // ---- promise 2: "character code, 0 to 255"; "already has 160 characters"

    private static void everyCode() {
        for (int code = 0; code <= 255; code++) {
            due("2: append(" + code + ")", new ConfinementAnalyzer().append(code), 1);
        }
        for (int bad : new int[] {-1, 256, -256, 65536 + 32, LOW, HIGH}) {
            ConfinementAnalyzer c = new ConfinementAnalyzer();
            due("2: append(" + bad + ")", c.append(bad), INVALID);
            due("2: the text stays empty behind append(" + bad + ")", c.append(32), 1);
        }
    }

    private static void fullText() {
        for (int code : new int[] {0, 32, ';', 'a', '0', 255}) {
            ConfinementAnalyzer c = new ConfinementAnalyzer();
            for (int i = 1; i <= LONGEST; i++) {
                due("2: length " + i, c.append(code), i);
            }
            due("2: a character too many", c.append(code), FULL);
            due("2: and again", c.append(0), FULL);
            due("2: out of range comes before full, below", c.append(-1), INVALID);
            due("2: out of range comes before full, above", c.append(256), INVALID);
            due("3: the full text", c.clearText(), LONGEST);
            due("2: there is room again", c.append(code), 1);
        }
    }

    private static void textAfterLoad() {
        ConfinementAnalyzer c = new ConfinementAnalyzer();
        type(c, spaces(LONGEST));
        due("4: a full text of spaces", c.load(), 0);
        due("4: the text is empty behind load", c.append('x'), 1);
        type(c, "x".repeat(LONGEST - 1));
        due("4: a full text that is wrong", c.load(), errorAt(0));
        due("4: it is kept and full", c.append('x'), FULL);
        due("4: and answers the same again", c.load(), errorAt(0));
        due("3: it is all there", c.clearText(), LONGEST);
        due("3: nothing is left", c.clearText(), 0);
        due("4: the empty text", c.load(), 0);
    }

    // ---- promise 4 at the end of a full text

    private static void fullSystems() {
        String full = "agent15 0;".repeat(8) + holds(8) + "hold1 0;hold1 1;";
        due("4: 160 characters", full.length(), LONGEST);
        ConfinementAnalyzer c = system(full);
        due("4: its objects", c.objectCount(), 8);
        due("4: its references", c.referenceCount(), 10);
        due("4: its last reference", c.round(1, 1), 0);
        String cut = full.substring(0, LONGEST - 1);
        due("4: the last character is wrong", loaded(cut + "x"), errorAt(LONGEST - 1));
        due("4: the last character is a space", loaded(cut + " "), errorAt(LONGEST));
        due("4: the last character is missing", loaded(cut), errorAt(LONGEST - 1));
        due("4: the last number has a digit more", loaded(cut + "0"), errorAt(LONGEST - 2));
    }

    private static void endsOfFullTexts() {
        due("4: a statement at the very end", loaded(spaces(153) + "key0 0;"), 1);
        due("4: a statement at the very beginning", loaded("key0 0;" + spaces(153)), 1);
        due("4: spaces within", loaded("key" + spaces(153) + "0 0;"), 1);
        due("4: a wrong sign at the end", loaded(spaces(159) + "#"), errorAt(159));
        due("4: a semicolon at the end", loaded(spaces(159) + ";"), errorAt(159));
        due("4: a digit at the end", loaded(spaces(159) + "0"), errorAt(159));
        due("4: a letter at the end", loaded(spaces(159) + "k"), errorAt(159));
        due("4: a word at the end", loaded(spaces(157) + "key"), errorAt(LONGEST));
        due("4: a number at the end", loaded(spaces(156) + "key0"), errorAt(LONGEST));
        due("4: two digits at the end", loaded(spaces(153) + "agent15"), errorAt(LONGEST));
        due("4: two wrong digits at the end", loaded(spaces(153) + "agent16"), errorAt(158));
        due("4: letters alone", loaded("a".repeat(LONGEST)), errorAt(0));
        due("4: digits alone", loaded("1".repeat(LONGEST)), errorAt(0));
        due("4: semicolons alone", loaded(";".repeat(LONGEST)), errorAt(0));
        due("4: a word and digits", loaded("agent" + "1".repeat(155)), errorAt(5));
        due("4: a word and zeros", loaded("agent" + "0".repeat(155)), errorAt(5));
        due("4: a word and more letters", loaded("key" + "y".repeat(157)), errorAt(0));
    }

    // ---- "The text consists of zero or more statements"

    private static void noStatements() {
        for (int count : new int[] {0, 1, 2, 159, 160}) {
            due("4: " + count + " spaces", loaded(spaces(count)), 0);
        }
        ConfinementAnalyzer c = system(TEN_OBJECTS + TEN_HOLDS);
        c.forbid(0, 0);
        due("4: the empty text behind a full system", c.load(), 0);
        due("5: no objects", c.objectCount(), 0);
        due("12: no references", c.referenceCount(), 0);
        due("22: no requirements", c.violationCount(), 0);
        due("28: no run", c.restartRun(), 0);
    }

    // ---- "any other character except a space is a token of its own that is never allowed"

    private static boolean isLetter(int code) {
        return code >= 'a' && code <= 'z';
    }

    private static boolean isDigit(int code) {
        return code >= '0' && code <= '9';
    }

    private static void everySign(String before, int code, String after, int want) {
        due("4: " + before + "<" + code + ">" + after, loaded(before + (char) code + after), want);
    }

    private static void everySignEverywhere() {
        for (int code = 0; code <= 255; code++) {
            boolean space = code == 32;
            everySign("", code, "", space ? 0 : errorAt(0));
            everySign("", code, "agent3 0;", space ? 1 : errorAt(0));
            everySign("agent3 0;", code, "", space ? 1 : errorAt(9));
            everySign("agent3 0; ", code, " key0 0;", space ? 2 : errorAt(10));
            everySign("agent ", code, " 3 0;", space ? 1 : signBeforeNumbers(code));
            everySign("agent", code, "3 0;", space ? 1 : signBeforeDigit(code));
            everySign("agent3", code, "0;", space ? 1 : errorAt(isDigit(code) ? 5 : 6));
            everySign("agent3 ", code, " 0;", space ? 1 : signBetweenNumbers(code));
            everySign("agent3 0", code, ";", space ? 1 : signBeforeSemicolon(code));
            everySign("agent3 0 ", code, ";", space ? 1 : code == ';' ? errorAt(10) : errorAt(9));
            everySign("ag", code, "ent3 0;", errorAt(0));
        }
    }

    private static int signBeforeNumbers(int code) {
        // A digit is the behaviour then, 3 the group, and 0 is a number too many.
        return errorAt(isDigit(code) ? 10 : 6);
    }

    private static int signBeforeDigit(int code) {
        return code == '1' ? 1 : errorAt(isLetter(code) ? 0 : 5);
    }

    private static int signBetweenNumbers(int code) {
        // A digit up to 5 is the group then, and 0 is a number too many.
        return errorAt(code >= '0' && code <= '5' ? 9 : 7);
    }

    private static int signBeforeSemicolon(int code) {
        return code == ';' ? errorAt(9) : errorAt(isDigit(code) ? 7 : 8);
    }

    // ---- "a maximal run of the letters a to z is a word"

    private static void words() {
        for (String word : List.of("agent", "box", "key", "factory", "hold")) {
            String numbers = word.equals("box") ? " 0 0 0;" : " 0 0;";
            due("4: " + word, loaded("agent0 0;" + word + numbers), word.equals("hold") ? 1 : 2);
            for (char more = 'a'; more <= 'z'; more++) {
                due("4: a letter behind " + word, loaded("agent0 0;" + word + more + numbers), errorAt(9));
                due("4: a letter before " + word, loaded("agent0 0;" + more + word + numbers), errorAt(9));
            }
            for (int i = 0; i < word.length(); i++) {
                String shorter = word.substring(0, i) + word.substring(i + 1);
                due("4: " + shorter, loaded("agent0 0;" + shorter + numbers), errorAt(9));
                char other = word.charAt(i) == 'z' ? 'a' : (char) (word.charAt(i) + 1);
                String changed = word.substring(0, i) + other + word.substring(i + 1);
                due("4: " + changed, loaded("agent0 0;" + changed + numbers), errorAt(9));
                String cut = word.substring(0, i);
                due("4: the text ends with " + cut, loaded("agent0 0;" + cut), i == 0 ? 1 : errorAt(9));
                String upper = cut + Character.toUpperCase(word.charAt(i)) + word.substring(i + 1);
                // What stands before the capital is a word of its own, and no statement.
                due("4: " + upper, loaded("agent0 0;" + upper + numbers), errorAt(9));
            }
            due("4: " + word + " twice", loaded("agent0 0;" + word + word + numbers), errorAt(9));
            due("4: " + word + " and again", loaded("agent0 0;" + word + " " + word + numbers),
                    errorAt(9 + word.length() + 1));
        }
    }

    // ---- "Spaces may stand before, between and after tokens; they are needed only between two numbers"

    private static void spacing() {
        due("4: no space that is not needed", loaded("agent15 0;box0 0 0;key0 0;factory0 0;hold3 1;"), 4);
        due("4: a space at every place", loaded(" agent 15 0 ; box 0 0 0 ; key 0 0 ; factory 0 0 ; hold 3 1 ; "), 4);
        due("4: many spaces", loaded("   agent   15   0   ;   hold   0   0   ;   "), 1);
        due("4: two numbers without a space", loaded("agent15;"), errorAt(7));
        due("4: three digits without a space", loaded("agent150;"), errorAt(5));
        due("4: the second pair without a space", loaded("key0 0;box0 00;"), errorAt(12));
        due("4: a space within a word", loaded("ag ent0 0;"), errorAt(0));
        due("4: a space within a number", loaded("agent1 5 0;"), errorAt(9));
    }

    // ---- "A number is allowed only if it has one or two digits and does not begin with 0 unless it is just 0"

    /** Tries every number in one place of a statement; the predicate tells which are allowed there. */
    private static void numbers(String what, String before, String after, int objects, IntPredicate allowed) {
        for (int value = 0; value <= 130; value++) {
            String place = what + " " + value;
            int want = value < 100 && allowed.test(value) ? objects : errorAt(before.length());
            due("4: " + place, loaded(before + value + after), want);
            due("4: a zero before " + place, loaded(before + "0" + value + after), errorAt(before.length()));
            due("4: two zeros before " + place, loaded(before + "00" + value + after), errorAt(before.length()));
        }
        for (String bad : List.of("256", "999", "1000", "2147483647", "2147483648", "4294967295", "4294967296",
                "4294967297", "9223372036854775808", "18446744073709551616", "18446744073709551617")) {
            due("4: " + what + " " + bad, loaded(before + bad + after), errorAt(before.length()));
        }
        for (String bad : List.of("-1", "+1", "-0", ".0", "x", ";", "#")) {
            due("4: " + what + " " + bad, loaded(before + bad + after), errorAt(before.length()));
        }
    }

    private static void everyNumber() {
        numbers("behaviour", "agent ", " 0;", 1, v -> v <= 15);
        numbers("group of an agent", "agent 15 ", ";", 1, v -> v <= 5);
        numbers("brand of a box", EACH_KIND + "box ", " 4 5;", 6, v -> v <= 3);
        numbers("content", EACH_KIND + "box 3 ", " 5;", 6, v -> v <= 4);
        numbers("group of a box", EACH_KIND + "box 3 4 ", ";", 6, v -> v <= 5);
        numbers("brand of a key", "key ", " 5;", 1, v -> v <= 3);
        numbers("group of a key", "key 3 ", ";", 1, v -> v <= 5);
        numbers("product", EACH_KIND + "factory ", " 5;", 6, v -> v == 0 || v == 4);
        numbers("group of a factory", EACH_KIND + "factory 4 ", ";", 6, v -> v <= 5);
        numbers("holder", EACH_KIND + "hold ", " 0;", 5, v -> v == 0 || v == 3 || v == 4);
        numbers("held object", EACH_KIND + "hold 4 ", ";", 5, v -> v <= 4);
        numbers("held object, one of them listed", EACH_KIND + "hold 4 2;hold 4 ", ";", 5, v -> v <= 4 && v != 2);
    }

    private static void numbersOfTheLastObjects() {
        String nine = "agent0 0;".repeat(9);
        numbers("content of the tenth", nine + "box0 ", " 0;", 10, v -> v <= 8);
        numbers("product of the tenth", nine + "factory ", " 0;", 10, v -> v <= 8);
        String ten = nine + "factory8 0;";
        numbers("holder among ten", ten + "hold ", " 9;", 10, v -> v <= 9);
        numbers("object among ten", ten + "hold9 ", ";", 10, v -> v <= 9);
        numbers("content of the first", "box0 ", " 0;", 1, v -> false);
        numbers("product of the first", "factory ", " 0;", 1, v -> false);
        numbers("holder among none", "hold ", " 0;", 0, v -> false);
    }

    // ---- "declared earlier in the text"

    private static void declaredEarlier() {
        due("4: a box in itself", loaded("key0 0;box0 1 0;"), errorAt(12));
        due("4: a box around the one before", loaded("key0 0;box0 0 0;"), 2);
        due("4: a box around a later one", loaded("key0 0;box0 2 0;key0 0;"), errorAt(12));
        due("4: a later product", loaded("agent0 0;factory1 0;agent0 0;"), errorAt(16));
        due("4: a later holder", loaded("agent0 0;hold1 0;agent0 0;"), errorAt(13));
        due("4: a later held object", loaded("agent0 0;hold0 1;agent0 0;"), errorAt(15));
        due("4: holds among the declarations", loaded("agent0 0;hold0 0;agent0 0;hold0 1;hold1 0;"), 2);
        for (int kind = 1; kind <= 3; kind++) {
            due("4: product of kind " + kind, loaded(EACH_KIND + "factory" + kind + " 0;"), errorAt(52));
        }
        // What an earlier system had is not declared in this text.
        ConfinementAnalyzer c = system(TEN_OBJECTS + TEN_HOLDS);
        type(c, "hold0 0;");
        due("4: a holder of the earlier system", c.load(), errorAt(4));
        c.clearText();
        type(c, "box0 0 0;");
        due("4: a content of the earlier system", c.load(), errorAt(5));
        c.clearText();
        type(c, "agent0 0;hold0 0;");
        due("4: the earlier system was full", c.load(), 1);
        due("12: the earlier list was full", c.referenceCount(), 1);
    }

    // ---- "a word that begins an eleventh object or an eleventh hold statement"

    private static void eleventhObject() {
        due("4: ten objects", loaded(TEN_OBJECTS), 10);
        int end = TEN_OBJECTS.length();
        for (String more : List.of("agent0 0;", "box0 0 0;", "key0 0;", "factory0 0;", "agent", "key9", "factory")) {
            due("4: ten objects and " + more, loaded(TEN_OBJECTS + more), errorAt(end));
            due("4: ten objects, spaces and " + more, loaded(TEN_OBJECTS + "   " + more), errorAt(end + 3));
            due("4: ten objects, a hold and " + more, loaded(TEN_OBJECTS + "hold0 0;" + more), errorAt(end + 8));
        }
        String nine = "agent0 0;".repeat(9);
        for (String tenth : List.of("agent0 0;", "box0 8 0;", "key0 0;", "factory8 0;")) {
            due("4: as the tenth " + tenth, loaded(nine + tenth), 10);
            due("4: an eleventh behind " + tenth, loaded(nine + tenth + "key0 0;"), errorAt(81 + tenth.length()));
        }
        due("4: a hold behind ten objects", loaded(TEN_OBJECTS + "hold0 9;"), 10);
        due("4: an error before the eleventh", loaded(TEN_OBJECTS + "hold0 10;key0 0;"), errorAt(end + 6));
    }

    private static void eleventhHold() {
        String full = TEN_OBJECTS + TEN_HOLDS;
        due("4: ten objects and ten holds are 152 characters", full.length(), 152);
        ConfinementAnalyzer c = system(full);
        due("4: ten of each", c.objectCount(), 10);
        due("12: ten of each", c.referenceCount(), 10);
        due("4: an eleventh of both", loaded(full + "key0 0;"), errorAt(152));
        due("4: an eleventh hold that repeats", loaded(full + "hold0 0;"), errorAt(152));
        due("4: an eleventh hold without a holder", loaded(full + "hold9 9;"), errorAt(152));
        due("4: the word alone", loaded(full + "    hold"), errorAt(156));
        due("4: another word", loaded(full + "    hol"), errorAt(156));
        String four = "agent0 0;".repeat(4);
        String ten = "hold0 0;hold0 1;hold0 2;hold0 3;hold1 0;hold1 1;hold1 2;hold1 3;hold2 0;hold2 1;";
        due("4: an object behind ten holds", loaded(four + ten + "key0 0;"), 5);
        due("4: an eleventh hold that repeats nothing", loaded(four + ten + "hold3 3;"), errorAt(116));
        due("4: the tenth hold repeats", loaded(four + ten.substring(0, 72) + "hold2 0;"), errorAt(36 + 72 + 6));
    }

    // ---- "the second number of a hold statement that repeats an earlier one"

    private static void repeatedHolds() {
        String two = "agent0 0;agent0 0;";
        due("4: at once", loaded(two + "hold0 1;hold0 1;"), errorAt(18 + 8 + 6));
        due("4: later", loaded(two + "hold0 1;hold0 0;hold1 1;hold0 1;"), errorAt(18 + 24 + 6));
        due("4: spaces do not matter", loaded(two + "hold0 1; hold  0  1 ;"), errorAt(18 + 8 + 10));
        due("4: the text ends before it repeats", loaded(two + "hold0 1;hold0"), errorAt(18 + 13));
        due("4: turned about is no repetition", loaded(two + "hold0 1;hold1 0;"), 2);
        due("4: the same holder", loaded(two + "hold0 1;hold0 0;"), 2);
        due("4: the same object", loaded(two + "hold0 1;hold1 1;"), 2);
        due("4: itself twice", loaded(two + "hold1 1;hold1 1;"), errorAt(18 + 8 + 6));
        due("4: an object between", loaded(two + "hold0 1;key0 0;hold0 1;"), errorAt(18 + 8 + 7 + 6));
    }

    // ---- "or the length of the text if the text ends inside a statement"

    private static void endsInside() {
        for (String statement : List.of("agent 1 0 ;", "box 1 0 0 ;", "key 1 0 ;", "factory 0 0 ;", "hold 0 0 ;")) {
            String[] tokens = statement.split(" ");
            StringBuilder text = new StringBuilder("agent0 0;");
            for (int i = 0; i + 1 < tokens.length; i++) {
                text.append(i == 0 ? "" : " ").append(tokens[i]);
                due("4: ends with " + text, loaded(text.toString()), errorAt(text.length()));
                due("4: ends with spaces behind " + text, loaded(text + "   "), errorAt(text.length() + 3));
                int next = text.length() + 1;
                due("4: a semicolon behind " + text, loaded(text + " ;"), i + 2 < tokens.length
                        ? errorAt(next) : statement.startsWith("hold") ? 1 : 2);
                due("4: a wrong sign behind " + text, loaded(text + " ?"), errorAt(next));
                due("4: a word behind " + text, loaded(text + " agent"), errorAt(next));
            }
            due("4: a number too many behind " + text, loaded(text + " 0;"), errorAt(text.length() + 1));
            due("4: the next statement without a semicolon", loaded(text + " key0 0;"), errorAt(text.length() + 1));
            due("4: a second semicolon", loaded(text + ";;"), errorAt(text.length() + 1));
        }
        due("4: a semicolon alone", loaded(";"), errorAt(0));
        due("4: a semicolon behind spaces", loaded("  ;"), errorAt(2));
        due("4: a number alone", loaded("0"), errorAt(0));
    }

    private static void firstErrorCounts() {
        due("4: two errors in one statement", loaded("agent16 6;"), errorAt(5));
        due("4: two errors in two statements", loaded("agent0 6;agent16 0;"), errorAt(7));
        due("4: an error and an end inside", loaded("agent16"), errorAt(5));
        due("4: an unknown word and an end", loaded("agents"), errorAt(0));
        due("4: both numbers of a hold", loaded("key0 0;hold0 5;"), errorAt(11));
        due("4: brand, content and group", loaded("box4 0 6;"), errorAt(3));
        due("4: content and group", loaded("box3 0 6;"), errorAt(5));
    }

    // ---- "The order of the hold statements is the order of the list"; kinds, brands and groups are kept

    private static void whatIsRead() {
        ConfinementAnalyzer c = system("agent0 5;agent15 0;box3 1 5;key3 0;factory1 5;hold1 3;hold1 2;hold4 4;hold0 0;");
        int[] kinds = {0, 0, 1, 2, 3};
        int[] groups = {5, 0, 5, 0, 5};
        for (int i = 0; i < kinds.length; i++) {
            due("6: kind(" + i + ")", c.kind(i), kinds[i]);
            due("9: the group of " + i + " is as read", c.setGroup(i, groups[i]), ILLEGAL);
        }
        due("7: behaviour 0", c.behaviour(0), 0);
        due("7: behaviour 15", c.behaviour(1), 15);
        due("26: brand and content", c.open(1, 2, 3), 1);
        due("26: content 1", c.holdsInRun(1, 1), 1);
        int[][] list = {{1, 3}, {1, 2}, {4, 4}, {0, 0}};
        for (int i = 0; i < list.length; i++) {
            due("11: the first of " + (4 - i), c.holdsInRun(list[i][0], list[i][1]), 1);
            due("11: removed", c.removeReference(0), 3 - i);
            due("11: it was the first", c.holdsInRun(list[i][0], list[i][1]), 0);
        }
    }

    private static void brandsThatAreRead() {
        for (int brand = 0; brand <= 3; brand++) {
            for (int other = 0; other <= 3; other++) {
                ConfinementAnalyzer c = system("agent2 0;box" + brand + " 0 0;key" + other + " 0;hold0 1;hold0 2;");
                due("26: a box of brand " + brand + ", a key of brand " + other, c.open(0, 1, 2),
                        brand == other ? 1 : INVALID);
                due("13: the same by rule 3", c.mayHold(0, 0), brand == other ? 1 : 0);
            }
        }
    }

    // ---- "Reads the text as a new system": nothing of the one before is left, whatever it was

    private static void asANewSystem() {
        List<String> systems = List.of("", TEN_OBJECTS + holds(8),
                "agent15 0;agent15 1;key1 2;box1 1 3;factory1 4;agent15 5;hold0 2;hold0 3;hold0 4;hold5 1;hold4 5;",
                "agent15 5;key0 4;key3 3;agent15 2;agent15 1;key1 0;hold0 3;hold3 4;hold4 5;",
                "agent15 0;agent15 1;factory0 2;agent15 3;key0 4;box0 4 5;hold0 2;hold2 5;hold0 4;hold1 5;hold1 3;",
                "key0 0;agent15 0;box0 1 1;box0 0 1;agent15 2;key1 2;hold4 2;hold4 5;hold1 3;hold1 0;");
        for (String earlier : systems) {
            for (String later : systems) {
                List<List<Integer>> alone = Looks.all(c -> loadAndAsk(c, later), 0);
                List<List<Integer>> behind = Looks.all(c -> {
                    loadAndAsk(c, earlier);
                    c.forbid(0, 0);
                    loadAndAsk(c, later);
                }, 0);
                if (!alone.equals(behind)) {
                    fault("4: " + later + " behind " + earlier + " is not as it is alone");
                }
            }
        }
    }

    /** Asks too, so that whatever is kept of an analysis is there when the next system comes. */
    private static void loadAndAsk(ConfinementAnalyzer c, String text) {
        type(c, text);
        if (c.load() < 0) {
            fault("4: load of " + text);
        }
        c.lastRound();
        c.coarselyMayHold(0, 0);
        c.smallestRepair();
    }

    private static void aRefusedLoad() {
        ConfinementAnalyzer c = system("agent1 0;agent4 0;hold0 1;");
        c.forbid(1, 0);
        c.give(0, 1, 0);
        type(c, "key0 0;key");
        due("4: ends inside", c.load(), errorAt(10));
        due("4: the same again", c.load(), errorAt(10));
        due("5: the objects are as before", c.objectCount(), 2);
        due("12: the references are as before", c.referenceCount(), 1);
        due("22: the requirements are as before", c.violationCount(), 1);
        due("29: the run is as before", c.holdsInRun(1, 0), 1);
        due("31: nothing is saved", c.undoDepth(), 3);
        due("2: the text goes on", c.append('3'), 11);
        type(c, " 5;");
        due("4: and is read then", c.load(), 2);
        due("6: it begins with what was kept", c.kind(0), 2);
        due("3: and is empty behind it", c.clearText(), 0);
        due("31: saved", c.undoDepth(), 4);
    }

    public static void main(String[] args) {
        everyCode();
        fullText();
        textAfterLoad();
        fullSystems();
        endsOfFullTexts();
        noStatements();
        everySignEverywhere();
        words();
        spacing();
        everyNumber();
        numbersOfTheLastObjects();
        declaredEarlier();
        eleventhObject();
        eleventhHold();
        repeatedHolds();
        endsInside();
        firstErrorCounts();
        whatIsRead();
        brandsThatAreRead();
        asANewSystem();
        aRefusedLoad();
        end("the boundaries of the text hold");
    }
}
