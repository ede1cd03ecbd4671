/** The examples of README.md, call by call. */
public final class ReadmeTest {
    public static void main(String[] args) {
        oneSheet();
        stops();
        Check.finish();
    }

    private static void oneSheet() {
        PageFeeder feeder = new PageFeeder();
        Check.same("append", feeder.append(0x66656564, 0x65722035, 0x30203330, 0x3b736865, 0x65742035), 20);
        Check.same("append again", feeder.append(0x30203330, 0x20302039, 0x20393b20, 0x20202020, 0x20202020), 40);
        Check.same("parse", feeder.parse(31), 1);
        Check.same("feed", feeder.feed(40), 1);
        Check.same("pages", feeder.size(4), 2);
    }

    private static void stops() {
        PageFeeder feeder = Check.feeder("feeder 200 100;sheet 200 100 0 50 60 stuck 10;sheet 200 100 -40 70 0;");
        Check.same("feed of two that stick", feeder.feed(40), 0);
        Check.same("reason for two that stick", feeder.size(3), 1);
        Check.same("putBack of two", feeder.putBack(), 2);
        Check.same("feed up to the skewed sheet", feeder.feed(40), 1);
        Check.same("pages of the first sheet", feeder.size(4), 2);
        Check.same("reason for the skewed sheet", feeder.size(3), 3);
        Check.same("half of the skewed sheet", feeder.isHalf(1), true);
        Check.same("putBack of the skewed sheet", feeder.putBack(), 1);
        Check.same("its skew then", feeder.sheet(1, 2), -20);
        Check.same("feed of the last sheet", feeder.feed(40), 1);
        Check.same("pages of both", feeder.size(4), 3);
        Check.same("undo", feeder.undo(), 4);
        Check.same("where the last sheet is", feeder.sheet(1, 7), 0);
    }
}
