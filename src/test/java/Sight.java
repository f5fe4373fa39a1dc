import java.util.function.IntSupplier;

/** What can be seen of a granary from outside, as texts that can be compared. */
final class Sight {
    private Sight() {
    }

    /** What a call answers: its number, or the name of the exception that it throws. */
    static String answer(IntSupplier call) {
        try {
            return Integer.toString(call.getAsInt());
        } catch (RuntimeException thrown) {
            return thrown.getClass().getSimpleName();
        }
    }

    /** All that undo and the snapshot cover, but for the id that is given next. Writes to the output. */
    static String ofData(SighGranary x) {
        StringBuilder text = new StringBuilder();
        for (int bin = 0; bin < x.binCount(); bin++) {
            text.append(ofBin(x, bin)).append(';');
            for (int position = 0; position < x.sackCount(bin); position++) {
                int sack = x.sackAt(bin, position);
                text.append(ofSack(x, sack)).append('-').append(x.storedIn(sack)).append(';');
            }
        }
        for (int month = 0; month < 12; month++) {
            text.append(x.priceIn(month)).append(',');
        }
        text.append(x.month()).append(',').append(x.storedWeight()).append(',').append(x.soldWeight());
        text.append(',').append(x.eatenWeight()).append(',').append(x.chaffWeight()).append(',').append(x.revenue());
        return text.append(',').append(x.profit()).append(',').append(x.valueByAccounts()).toString();
    }

    static String ofBin(SighGranary x, int bin) {
        return Check.outputOf(x, x.writeBin(bin));
    }

    static String ofSack(SighGranary x, int sack) {
        return Check.outputOf(x, x.writeSack(sack));
    }

    /** The output, up to the first index that has no character. */
    static String ofOutput(SighGranary x) {
        StringBuilder text = new StringBuilder();
        String code = answer(() -> x.outputAt(0));
        while (!code.equals("IndexOutOfBoundsException")) {
            text.append((char) Integer.parseInt(code));
            code = answer(() -> x.outputAt(text.length()));
        }
        return text.toString();
    }

    /** The reason, the detail and the cause of the latest rejection. */
    static String ofRejection(SighGranary x) {
        return answer(x::rejectionReason) + " " + answer(x::rejectionDetail) + " " + answer(x::causeReason);
    }

    /** All that can be seen but the latest rejection. Uses the granary up: it stores, undoes, restores and executes. */
    static String ofRest(SighGranary x) {
        StringBuilder text = new StringBuilder(ofOutput(x));
        text.append("\nsyntax error ").append(answer(x::syntaxErrorOffset)).append("\n").append(ofData(x));
        text.append("\nnext id ").append(answer(() -> x.addSack(0, 1, 1, 0)));
        String left = "";
        while (!left.equals("IllegalStateException")) {
            left = answer(x::undo);
            text.append("\nundo ").append(left).append(' ').append(ofData(x));
        }
        text.append("\nrestore ").append(answer(x::restoreSnapshot)).append(' ').append(ofData(x));
        text.append("\nnext id ").append(answer(() -> x.addSack(0, 1, 1, 0)));
        text.append("\ninput ").append(answer(() -> x.appendInput('7'))).append(' ').append(answer(x::execute));
        return text.append(' ').append(ofData(x)).toString();
    }
}
