/** Says of templates whether they must have a FAULT, and where; each is compiled by an engine of its own. */
final class Faults {
    static final int NONE = -1;

    private Faults() {
    }

    /** The FAULT must be at the place, or there must be NONE. */
    static void fault(String template, int place) {
        Bench b = new Bench();
        b.type(template);
        String answer = Bench.answerOf(() -> b.engine().compile(2));
        if (place == NONE) {
            Bench.due("compiling " + template, Bench.BAD_ARGUMENT.equals(answer), false);
        } else {
            Bench.due("compiling " + template, answer, Bench.BAD_ARGUMENT);
        }
        Bench.due("the fault of " + template, () -> b.engine().errorAt(), place);
        Bench.due("THE LINE after " + template, () -> b.engine().count(1), 0);
        Bench.due("templates after " + template, () -> b.engine().count(2), place == NONE ? 1 : 0);
    }

    static void faultless(String... templates) {
        for (String template : templates) {
            fault(template, NONE);
        }
    }

    static void faultyAtBegin(String... templates) {
        for (String template : templates) {
            fault(template, 0);
            fault("ab" + template, 2);
        }
    }

    /** The same expression wherever one may stand. */
    static void expression(String expression, boolean fits) {
        String[][] places = {{"{{", "}}"}, {"{{{", "}}}"}, {"{{#if ", "}}{{/if}}"}, {"{{#each ", "}}{{/each}}"}, {"{{#with ", "}}{{/with}}"}};
        for (String[] place : places) {
            fault("a" + place[0] + expression + place[1], fits ? NONE : 1);
        }
    }

    /** The same operand wherever one may stand. */
    static void operand(String operand, boolean fits) {
        expression(operand, fits);
        for (String helper : new String[] {"up", "len", "not"}) {
            expression(helper + " " + operand, fits);
        }
        for (String helper : new String[] {"add", "eq", "at"}) {
            expression(helper + " " + operand + " 1", fits);
            expression(helper + " 1 " + operand, fits);
        }
    }
}
