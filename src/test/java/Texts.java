/** TEXTS for the model: where they fault by a walk along the bytes, what they give by cutting them at their joints. */
final class Texts {
    private Texts() {
    }

    /** The FAULT, or -1. */
    static int fault(String text, String names) {
        StringBuilder open = new StringBuilder();
        // Whether the comparison that the present B may have has been used, for each ( that is open.
        boolean[] compared = new boolean[8];
        int round = 0;
        boolean wants = true;
        int digits = 0;
        for (int i = 0; i < text.length(); i++) {
            char c = text.charAt(i);
            boolean digit = c >= '0' && c <= '9';
            if (wants) {
                if (c == '!' || c == '(') {
                    if (open.length() == 5) {
                        return i;
                    }
                    open.append(c);
                    if (c == '(') {
                        compared[++round] = false;
                    }
                    continue;
                }
                if (!digit && names.indexOf(c) < 0) {
                    return i;
                }
                digits = digit ? 1 : 9;
                wants = false;
                closeNots(open);
            } else if (digit && digits < 4) {
                digits++;
            } else if ("+-*/%".indexOf(c) >= 0) {
                wants = true;
            } else if ("<=>".indexOf(c) >= 0 && !compared[round]) {
                compared[round] = true;
                wants = true;
            } else if (c == '&' || c == '|') {
                compared[round] = false;
                wants = true;
            } else if (c == ')' && round > 0) {
                round--;
                open.setLength(open.length() - 1);
                digits = 9;
                closeNots(open);
            } else {
                return i;
            }
        }
        return wants || round > 0 ? text.length() : -1;
    }

    private static void closeNots(StringBuilder open) {
        while (open.length() > 0 && open.charAt(open.length() - 1) == '!') {
            open.setLength(open.length() - 1);
        }
    }

    /** What a TEXT without FAULT gives. */
    static int value(String text, String names, int[] named) {
        for (String level : new String[] {"|", "&", "<=>", "+-", "*/%"}) {
            int joint = joint(text, level);
            if (joint > 0) {
                int a = value(text.substring(0, joint), names, named);
                int b = value(text.substring(joint + 1), names, named);
                return join(text.charAt(joint), a, b);
            }
        }
        char c = text.charAt(0);
        if (c == '!') {
            return value(text.substring(1), names, named) == 0 ? 1 : 0;
        }
        if (c == '(') {
            return value(text.substring(1, text.length() - 1), names, named);
        }
        return names.indexOf(c) >= 0 ? named[names.indexOf(c)] : Integer.parseInt(text);
    }

    /** The last joint of a level that stands in no brackets; -1: none. */
    private static int joint(String text, String level) {
        int open = 0;
        for (int i = text.length() - 1; i >= 0; i--) {
            char c = text.charAt(i);
            open += c == ')' ? 1 : c == '(' ? -1 : 0;
            if (open == 0 && level.indexOf(c) >= 0) {
                return i;
            }
        }
        return -1;
    }

    private static int join(char sign, int a, int b) {
        switch (sign) {
            case '|': return (a != 0) | (b != 0) ? 1 : 0;
            case '&': return (a != 0) & (b != 0) ? 1 : 0;
            case '<': return a < b ? 1 : 0;
            case '=': return a == b ? 1 : 0;
            case '>': return a > b ? 1 : 0;
            case '+': return (int) ((long) a + b);
            case '-': return (int) ((long) a - b);
            case '*': return (int) ((long) a * b);
            case '/': return b == 0 ? 0 : (int) ((long) a / b);
            default: return b == 0 ? 0 : (int) ((long) a % b);
        }
    }
}
