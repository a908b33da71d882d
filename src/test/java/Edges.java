import java.util.NoSuchElementException;
import java.util.function.Consumer;
import java.util.function.ObjIntConsumer;
import java.util.function.Supplier;
import java.util.function.ToLongFunction;

/** Calls at the edge of what the document allows, each on a shed that one recipe makes. */
final class Edges {
    static final Class<NoSuchElementException> NO_ELEMENT = NoSuchElementException.class;
    static final Class<IndexOutOfBoundsException> BOUNDS = IndexOutOfBoundsException.class;
    static final Class<IllegalArgumentException> ARGUMENT = IllegalArgumentException.class;
    static final Class<IllegalStateException> STATE = IllegalStateException.class;
    static final Class<UnsupportedOperationException> UNSUPPORTED = UnsupportedOperationException.class;
    static final Class<ArithmeticException> ARITHMETIC = ArithmeticException.class;

    /** No lot of the busy shed has one of these: destroyed, released, not yet given, never given. */
    private static final int[] NO_LOTS = {3, 5, 7, 8, -1, Integer.MIN_VALUE, Integer.MAX_VALUE};

    private final Check check;
    private final Supplier<CustomsShed> recipe;
    private final String before;

    Edges(Check check, Supplier<CustomsShed> recipe) {
        this.check = check;
        this.recipe = recipe;
        this.before = Trace.of(recipe);
    }

    void answers(String what, long due, ToLongFunction<CustomsShed> call) {
        check.same(what, call.applyAsLong(recipe.get()), due);
    }

    /** The call throws an exception of this class and changes nothing that can be seen. */
    void refuses(String what, Class<? extends RuntimeException> due, Consumer<CustomsShed> call) {
        CustomsShed shed = recipe.get();
        check.refused(what, due, () -> call.accept(shed));
        leavesNoTrace(what, call);
    }

    /** After the call, refused or not, all is as without it. */
    void leavesNoTrace(String what, Consumer<CustomsShed> call) {
        String[] due = before.split("\n");
        String[] got = Trace.of(() -> tried(call)).split("\n");
        int line = 0;
        while (line < due.length - 1 && got[line].equals(due[line])) {
            line++;
        }
        check.same("trace of " + what, got[line], due[line]);
    }

    private CustomsShed tried(Consumer<CustomsShed> call) {
        CustomsShed shed = recipe.get();
        try {
            call.accept(shed);
        } catch (RuntimeException refused) {
            return shed;
        }
        return shed;
    }

    /** Positions, ranks and steps are from 0 to one less than the count. */
    void refusesIndexesBeyond(String name, int count, ObjIntConsumer<CustomsShed> call) {
        for (int index : new int[] {-1, count, count + 1, Integer.MIN_VALUE, Integer.MAX_VALUE}) {
            refuses(name + "(" + index + ")", BOUNDS, shed -> call.accept(shed, index));
        }
    }

    /** The bays are those from 0 to 23. */
    void refusesBays(String name, ObjIntConsumer<CustomsShed> call) {
        refusesIndexesBeyond(name, 24, call);
    }

    static void refuseLots(Check check, String name, ObjIntConsumer<CustomsShed> call) {
        Edges busy = new Edges(check, Recipes::busy);
        for (int lot : NO_LOTS) {
            busy.refuses(name + " of no lot " + lot, NO_ELEMENT, shed -> call.accept(shed, lot));
        }
        new Edges(check, CustomsShed::new).refuses(name + " in a new shed", NO_ELEMENT, shed -> call.accept(shed, 0));
        new Edges(check, () -> Recipes.full(0)).refuses(name + " of lot 16", NO_ELEMENT, shed -> call.accept(shed, 16));
    }

    /** The kinds are those from a to e. */
    void refusesKinds(String name, ObjIntConsumer<CustomsShed> call) {
        for (int kind : new int[] {'`', 'f', 'A', 'E', ' ', 0, 256 + 'a', 65535}) {
            refuses(name + " of sign " + kind, ARGUMENT, shed -> call.accept(shed, kind));
        }
    }

    void refusesNumbers(String name, int least, int most, ObjIntConsumer<CustomsShed> call) {
        for (int number : new int[] {least - 1, most + 1, -most, Integer.MIN_VALUE, Integer.MAX_VALUE}) {
            refuses(name + " of " + number, ARGUMENT, shed -> call.accept(shed, number));
        }
    }
}
