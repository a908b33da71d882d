import java.util.function.Supplier;

/**
 * All that the document lets one see of a shed: what its calls answer, and what they would answer
 * after undo, restore, a new lot and execute. Each look is at a shed of its own, which the recipe
 * makes: so no look disturbs another, and no shed is used for more than 512 calls.
 */
final class Trace {
    private Trace() {
    }

    static String of(Supplier<CustomsShed> recipe) {
        StringBuilder trace = new StringBuilder(look(recipe.get()));
        trace.append("\noutput ").append(output(recipe.get()));
        for (int undos = 1; undos <= 9; undos++) {
            trace.append("\nafter ").append(undos).append(" undos ").append(afterUndos(recipe.get(), undos));
        }
        trace.append("\nafter restore ").append(afterRestore(recipe.get()));
        trace.append("\nnext id ").append(nextId(recipe.get()));
        trace.append("\nfeed ").append(afterFeed(recipe.get()));
        trace.append("\nexecute ").append(afterExecute(recipe.get()));
        return trace.toString();
    }

    /** What the calls answer that change nothing at all, not even the output. */
    static String look(CustomsShed shed) {
        StringBuilder look = new StringBuilder();
        lots(look, shed);
        places(look, shed);
        numbers(look, shed);
        return look.toString();
    }

    static String answer(Supplier<Object> call) {
        try {
            return call.get() + " ";
        } catch (RuntimeException refused) {
            return refused.getClass().getSimpleName() + " ";
        }
    }

    private static void lots(StringBuilder look, CustomsShed shed) {
        for (int position = 0; position < shed.lotCount(); position++) {
            int lot = shed.lot(position);
            look.append(lot).append('=').append(shed.kind(lot)).append(shed.quantity(lot));
            look.append('*').append(shed.price(lot)).append('@').append(shed.bay(lot));
            look.append(shed.isSealed(lot) ? "#" : "").append(shed.isDamp(lot) ? "~" : "");
            look.append(" duty ").append(shed.duty(lot)).append(' ');
        }
    }

    private static void places(StringBuilder look, CustomsShed shed) {
        for (int rank = 0; rank < shed.lotCount(); rank++) {
            look.append(rank == 0 ? "by value " : "").append(shed.lotByValue(rank)).append(' ');
        }
        for (int step = 0; step < shed.stepCount(); step++) {
            look.append(shed.threshold(step)).append('>').append(shed.rate(step)).append(' ');
        }
        look.append("queue ").append(Sheds.queue(shed));
    }

    private static void numbers(StringBuilder look, CustomsShed shed) {
        look.append("day ").append(shed.day()).append(" damp ").append(shed.dampCount());
        look.append(" reach ").append(shed.dampReach()).append(" destroyed ").append(shed.destroyedCount());
        look.append(" bond ").append(shed.bond()).append(" collected ").append(shed.collected());
        look.append(" duty ").append(shed.totalDuty()).append(" releases ").append(shed.mostReleases());
        look.append(" consistent ").append(shed.isConsistent()).append(" changes ").append(shed.undoCount());
        look.append(" error position ").append(answer(shed::errorPosition));
        look.append("failed command ").append(answer(shed::failedCommand));
    }

    static String output(CustomsShed shed) {
        StringBuilder output = new StringBuilder();
        String character = "";
        for (int index = 0; index < 30 && character.length() <= 2; index++) {
            int at = index;
            character = answer(() -> shed.outputCharacter(at));
            output.append(character);
        }
        return output.toString();
    }

    private static String afterUndos(CustomsShed shed, int undos) {
        String last = "";
        for (int undo = 0; undo < undos; undo++) {
            last = answer(shed::undo);
        }
        return last + look(shed);
    }

    private static String afterRestore(CustomsShed shed) {
        return answer(shed::restore) + look(shed) + nextId(shed);
    }

    static String nextId(CustomsShed shed) {
        for (int position = shed.lotCount() - 1; position >= 0 && shed.lotCount() == 16; position--) {
            if (shed.duty(shed.lot(position)) == 0) {
                shed.release(shed.lot(position));
            }
        }
        return answer(() -> shed.addLot('a', 1, 1, shed.nextEmptyBay(0)));
    }

    private static String afterFeed(CustomsShed shed) {
        return answer(() -> shed.feed('x'));
    }

    private static String afterExecute(CustomsShed shed) {
        return answer(shed::execute) + look(shed);
    }
}
