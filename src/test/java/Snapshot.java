/** All that can be asked of a house, as one text. */
final class Snapshot {
    private Snapshot() {
    }

    static String of(Strikehall x, int contracts) {
        StringBuilder text = new StringBuilder();
        for (int c = 0; c < contracts; c++) {
            text.append("c").append(c).append(' ').append(x.value(c, false)).append('/').append(x.value(c, true));
            text.append(' ').append(x.mark(c)).append(' ').append(x.markByWays(c));
            for (int what = 0; what < 4; what++) {
                text.append(" q").append(x.quoted(c, what));
            }
            for (int holder = -1; holder < 6; holder++) {
                text.append(" l").append(x.lots(holder, c));
            }
            text.append('\n');
        }
        for (int holder = -1; holder < 6; holder++) {
            text.append(" m").append(x.cash(holder));
        }
        for (int cause = 0; cause < 6; cause++) {
            text.append(" p").append(x.cause(cause));
        }
        text.append(" f").append(x.fault()).append(" w").append(x.worth()).append(" r").append(x.worst(7));
        return text.toString();
    }
}
