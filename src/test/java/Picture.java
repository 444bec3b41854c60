/** All that can be seen of a ledger without changing it, as a text. */
final class Picture {

    private Picture() {
    }

    static String of(IntercompanyLedger x) {
        StringBuilder seen = new StringBuilder();
        for (int what = 0; what <= 4; what++) {
            seen.append(x.size(what)).append(' ');
        }
        for (int what = 0; what <= 7; what++) {
            seen.append(x.total(what)).append(' ');
        }
        seen.append(x.toleranceNeeded()).append(' ').append(x.matchRate()).append(' ');
        seen.append(x.directPayments()).append(' ').append(x.fewestPayments()).append('\n');
        for (int currency = 0; currency < x.size(0); currency++) {
            seen.append(x.rate(currency)).append(' ');
        }
        for (int item = 0; item < x.size(3); item++) {
            seen.append("\nitem");
            for (int what = 0; what <= 5; what++) {
                seen.append(' ').append(x.item(item, what));
            }
            seen.append(' ').append(x.amount(item)).append(' ').append(x.value(item));
            seen.append(' ').append(x.currencyDifference(item)).append(' ').append(x.candidates(item));
        }
        for (int delivery = 0; delivery < x.size(4); delivery++) {
            seen.append("\ndelivery ").append(x.gap(delivery));
        }
        for (int company = 0; company < x.size(1); company++) {
            seen.append("\ncompany ").append(x.currencyOf(company)).append(' ').append(x.position(company));
            seen.append(' ').append(x.settledPosition(company)).append(' ').append(x.unrealized(company));
            seen.append(' ').append(x.averageMargin(company)).append(' ').append(x.gapsOf(company));
            for (int partner = 0; partner < x.size(1); partner++) {
                seen.append(' ').append(x.balance(company, partner));
            }
            for (int product = 0; product < x.size(2); product++) {
                seen.append(' ').append(x.stock(company, product)).append(' ').append(x.oldestPrice(company, product));
            }
        }
        return seen.toString();
    }
}
