import java.util.List;

/** The calls of the face, each with what its arguments are, for tests that make all of them. */
final class Call {
    /** An answer for what is thrown, if it is not the exception that the document names. */
    static final long WRONGLY_THROWN = Long.MIN_VALUE + 1;

    /** What an argument is; its edges hang on it. */
    enum Role { STEPS, SET, KIND, SIZE, PLACE, RULE, APART, STEP, FORM, LENGTH, BEADS, COLOURS, FLAG }

    interface Made {
        long of(RowClasses x, int[] a);
    }

    interface Due {
        long of(Model x, int[] a);
    }

    static final List<Call> ALL = List.of(
        new Call("steps", (x, a) -> x.steps(a[0]), (m, a) -> m.steps(a[0]), Role.STEPS),
        new Call("least", (x, a) -> x.least(a[0], a[1]), (m, a) -> m.least(a[0], a[1]),
                Role.SET, Role.KIND),
        new Call("size", (x, a) -> x.size(a[0], a[1]), (m, a) -> m.size(a[0], a[1]),
                Role.SET, Role.KIND),
        new Call("classes", (x, a) -> x.classes(a[0], a[1]), (m, a) -> m.classes(a[0], a[1]),
                Role.SIZE, Role.KIND),
        new Call("nth", (x, a) -> x.nth(a[0], a[1], a[2]), (m, a) -> m.nth(a[0], a[1], a[2]),
                Role.SIZE, Role.KIND, Role.PLACE),
        new Call("normal", (x, a) -> x.normal(a[0], a[1], a[2]),
                (m, a) -> m.normal(a[0], a[1], a[2]), Role.SET, Role.RULE, Role.PLACE),
        new Call("prime", (x, a) -> x.prime(a[0], a[1], a[2]),
                (m, a) -> m.prime(a[0], a[1], a[2]), Role.SET, Role.RULE, Role.PLACE),
        new Call("differ", (x, a) -> x.differ(a[0]), (m, a) -> m.differ(a[0]), Role.SIZE),
        new Call("vector", (x, a) -> x.vector(a[0], a[1]), (m, a) -> m.vector(a[0], a[1]),
                Role.SET, Role.APART),
        new Call("twin", (x, a) -> x.twin(a[0]), (m, a) -> m.twin(a[0]), Role.SET),
        new Call("others", (x, a) -> x.others(a[0]), (m, a) -> m.others(a[0]), Role.SET),
        new Call("multiplied", (x, a) -> x.multiplied(a[0], a[1]),
                (m, a) -> m.multiplied(a[0], a[1]), Role.SET, Role.STEP),
        new Call("within", (x, a) -> x.within(a[0], a[1], a[2]),
                (m, a) -> m.within(a[0], a[1], a[2]), Role.SET, Role.SET, Role.KIND),
        new Call("common", (x, a) -> x.common(a[0], a[1], a[2], a[3] != 0),
                (m, a) -> m.common(a[0], a[1], a[2], a[3] != 0),
                Role.SET, Role.SET, Role.STEP, Role.FLAG),
        new Call("best", (x, a) -> x.best(a[0], a[1], a[2] != 0),
                (m, a) -> m.best(a[0], a[1], a[2] != 0), Role.SET, Role.SET, Role.FLAG),
        new Call("keeps", (x, a) -> x.keeps(a[0], a[1] != 0), (m, a) -> m.keeps(a[0], a[1] != 0),
                Role.SET, Role.FLAG),
        new Call("even", (x, a) -> x.even(a[0]), (m, a) -> m.even(a[0]), Role.SET),
        new Call("spread", (x, a) -> x.spread(a[0], a[1]), (m, a) -> m.spread(a[0], a[1]),
                Role.SIZE, Role.STEP),
        new Call("generator", (x, a) -> x.generator(a[0]), (m, a) -> m.generator(a[0]), Role.SET),
        new Call("add", (x, a) -> x.add(a[0]), (m, a) -> m.add(a[0]), Role.STEP),
        new Call("clear", (x, a) -> x.clear(), (m, a) -> m.clear()),
        new Call("form", (x, a) -> x.form(a[0], a[1], a[2]), (m, a) -> m.form(a[0], a[1], a[2]),
                Role.FORM, Role.STEP, Role.PLACE),
        new Call("forms", (x, a) -> x.forms(), (m, a) -> m.forms()),
        new Call("table", (x, a) -> x.table(a[0], a[1]), (m, a) -> m.table(a[0], a[1]),
                Role.PLACE, Role.PLACE),
        new Call("unlike", (x, a) -> x.unlike(), (m, a) -> m.unlike()),
        new Call("rows", (x, a) -> x.rows(), (m, a) -> m.rows()),
        new Call("fills", (x, a) -> x.fills(a[0], a[1]), (m, a) -> m.fills(a[0], a[1]),
                Role.FORM, Role.PLACE),
        new Call("derived", (x, a) -> x.derived(a[0], a[1]), (m, a) -> m.derived(a[0], a[1]),
                Role.LENGTH, Role.KIND),
        new Call("kept", (x, a) -> x.kept(a[0], a[1], a[2]), (m, a) -> m.kept(a[0], a[1], a[2]),
                Role.FORM, Role.STEP, Role.LENGTH),
        new Call("rounds", (x, a) -> x.rounds(a[0], a[1], a[2] != 0),
                (m, a) -> m.rounds(a[0], a[1], a[2] != 0), Role.BEADS, Role.COLOURS, Role.FLAG));

    final String name;
    final List<Role> roles;
    private final Made made;
    private final Due due;

    private Call(String name, Made made, Due due, Role... roles) {
        this.name = name;
        this.made = made;
        this.due = due;
        this.roles = List.of(roles);
    }

    static Call named(String name) {
        for (Call call : ALL) {
            if (call.name.equals(name)) {
                return call;
            }
        }
        throw new IllegalArgumentException(name);
    }

    long answer(RowClasses x, int[] a) {
        try {
            return made.of(x, a);
        } catch (RuntimeException e) {
            return e.getClass() == ArithmeticException.class && name.equals("steps")
                    ? Model.THROWS : WRONGLY_THROWN;
        }
    }

    long due(Model x, int[] a) {
        return due.of(x, a);
    }

    String text(int[] a) {
        StringBuilder result = new StringBuilder(name).append('(');
        for (int i = 0; i < a.length; i++) {
            result.append(i == 0 ? "" : ", ");
            result.append(roles.get(i) == Role.FLAG ? String.valueOf(a[i] != 0)
                    : String.valueOf(a[i]));
        }
        return result.append(')').toString();
    }
}
