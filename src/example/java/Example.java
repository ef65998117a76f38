/** What README.md shows: figures out of a block, a law, cutting in deed, a row that is told, and a call that is refused. */
public final class Example {
    public static void main(String[] args) {
        CutFromOthers yard = new CutFromOthers();
        int plus = yard.figure(2274);       // the bits 5 y and x of its cells: a plus of five
        int bar = yard.figure(7);           // three in a row
        int block = yard.block(33554431);   // the whole square of 5 by 5
        System.out.println("longest row: " + yard.longest(block, -1));
        System.out.println("it begins with: " + yard.longest(block, 0));

        for (char letter : "w+c*10".toCharArray()) {
            yard.feed(letter);
        }
        System.out.println("the law is taken: " + yard.law());
        System.out.println("the bar brings: " + yard.brings(bar, 0, 0));

        yard.row(0, 0, 2);                  // shelf 0: a row of two bytes
        yard.put(0, 0, -1);                 // the first cut is not known
        yard.put(0, 1, bar);                // the second was the bar
        System.out.println("the first cut was: " + yard.filled(0, block, 1));

        System.out.println("the plus is cut, it brings: " + yard.cut(10 * block + plus));
        System.out.println("left: " + yard.of(block, 4));
        System.out.println("cells lost: " + yard.led(1));

        int again = yard.cut(10 * block + plus);
        System.out.println(again == CutFromOthers.STATE ? "the plus can't be cut out of itself: " + again : "cut again: " + again);
    }
}
