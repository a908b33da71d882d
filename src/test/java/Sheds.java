/** Ways to fill and to read a shed that several tests need. */
final class Sheds {
    private Sheds() {
    }

    /** Adds an open lot of kind 'a' with price 1, damp or dry, and answers its id. */
    static int addOpen(CustomsShed shed, int quantity, int bay, boolean damp) {
        int lot = shed.addLot('a', quantity, 1, bay);
        shed.open(lot);
        if (damp) {
            shed.wet(lot);
        }
        return lot;
    }

    /** Adds 16 lots of kind 'a', quantity 1 and price 1 in the bays 0 to 15. */
    static void fill(CustomsShed shed) {
        for (int bay = 0; bay < 16; bay++) {
            shed.addLot('a', 1, 1, bay);
        }
    }

    static void feed(CustomsShed shed, String text) {
        for (int index = 0; index < text.length(); index++) {
            shed.feed(text.charAt(index));
        }
    }

    static int execute(CustomsShed shed, String text) {
        feed(shed, text);
        return shed.execute();
    }

    static String output(CustomsShed shed, int length) {
        StringBuilder output = new StringBuilder();
        for (int index = 0; index < length; index++) {
            output.append(shed.outputCharacter(index));
        }
        return output.toString();
    }

    static String lot(CustomsShed shed, int lot) {
        return output(shed, shed.writeLot(lot));
    }

    static String bays(CustomsShed shed) {
        return output(shed, shed.writeBays());
    }

    static String queue(CustomsShed shed) {
        StringBuilder queue = new StringBuilder();
        for (int position = 0; position < shed.queueLength(); position++) {
            queue.append(shed.queued(position)).append(' ');
        }
        return queue.toString();
    }
}
