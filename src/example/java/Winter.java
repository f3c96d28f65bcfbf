/** A winter with three people, told by the calls of NamesOnLoan. */
public final class Winter {
    private static void tell(String what, long answer) {
        System.out.println(what + ": " + answer);
    }

    public static void main(String[] args) {
        NamesOnLoan x = new NamesOnLoan();

        // people: SYLLABLES of the name, and how often one is out of doors a day
        tell("one comes", x.person(3, 5));
        tell("another", x.person(4, 2));
        tell("a third", x.person(2, 0));
        tell("the third stays in a HOUSE, was in one", x.mend(2, 3, 1));

        // in thought: nothing is otherwise
        tell("of name 1 a day burns", x.burns(1));
        tell("name 1 is burnt behind day", x.when(1, 1));
        tell("burnt after 30 days", x.winter(30, 1));
        tell("name 1 had better be worn by", x.give(1, 30, 0));
        tell("name 2, too", x.give(2, 30, 0));
        tell("so few may wear all", x.fewest(30));

        // in deed
        tell("name 1 was worn by", x.lend(1, 0));
        tell("name 2 was worn by", x.lend(2, 0));
        tell("after 20 days is left in all", x.pass(20));
        tell("minutes till all are home", x.thaw());

        // a law: the text goes byte by byte over the tape
        for (char letter : "o>4?0;c*s".toCharArray()) {
            x.feed(letter);
        }
        tell("the tape becomes the law", x.law());
        tell("now of name 1 a day burns", x.burns(1));
        x.feed('(');
        tell("a text that ends at 1, too early", x.law());

        // a row on a shelf: on day 7 somebody signed with name 1, and 0 was there
        x.row(0, 0, 3);
        x.put(0, 0, 7);
        x.put(0, 1, 1);
        x.put(0, 2, 0);
        tell("the first three that is not so", x.judge(0));
        tell("ways to wear that make it so", x.wore(0, -1));

        // what is refused changes nothing
        tell("nobody has ten syllables", x.person(10, 0));
        tell("nothing is there to be done again", x.redo());
    }
}
