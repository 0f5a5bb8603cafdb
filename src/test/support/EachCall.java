/** Each call of a library, within its bounds and at them, for three books and four fish. */
final class EachCall {
    static final String[] ON_THREE_BOOKS = {
        "nights(3)", "light(2, 1)", "light(3, 1)", "light(0, 0)", "keepIt(2, 1)", "keepIt(3, 1)", "change(0, 2)",
        "change(2, 1)", "change(3, 0)", "change(0, 3)", "move(3, 0)", "move(0, 2)", "move(4, 0)", "move(0, 3)",
        "catchIt(3)", "catchIt(4)", "book(2, 0)", "book(2, 1)", "book(2, 2)", "book(1, 5)", "book(3, 0)",
        "fish(3, 0)", "fish(2, 1)", "fish(2, 2)", "fish(1, 3)", "fish(4, 0)", "stand(0)", "stand(3)", "stand(4)",
        "stand(5)", "ahead(2, 9, 0)", "ahead(3, 9, 0)", "later(3, 9, 0)", "later(2, 9, 1)", "later(4, 9, 0)",
        "when(2)", "when(3)", "first(0)", "first(1)", "hole(3, 9)", "hole(4, 9)", "order(7, 5, -1)", "order(4, 5, 2)",
        "order(8, 5, 0)", "order(7, 5, 3)", "lamp(2, 9, 0)", "lamp(2, 9, 1)", "lamp(3, 9, 0)", "caught(2, 9, 1)",
        "caught(3, 9, 0)", "grams(2, 99)", "grams(3, 99)", "grams(4, 99)", "who(3, 0, 1, 0, 0, 1)",
        "who(2, 1, 2, 0, 0, 1)", "who(0, 1, 0, 0, 0, 2)", "who(0, 0, 0, 0, 0, 2)", "who(4, 0, 0, 0, 0, 1)",
        "who(0, 0, 3, 0, 0, 1)", "paste(2, 0, 0, 0, 1)", "paste(0, 2, 0, 0, 1)", "paste(3, 0, 0, 0, 1)",
        "paste(0, 3, 0, 0, 1)", "hungers(2, 0, 0, 1)", "hungers(0, 0, 0, 2)", "hungers(3, 0, 0, 1)",
        "dark(2, 9, 3, 0)", "dark(3, 9, 3, 0)", "drawn(9, 7, 0)", "drawn(40, 7, 1)", "image(1)", "restore(0)",
        "kind(3)", "kind(0)", "kind(4)", "as(3, 4)", "as(3, 5)", "as(1, 2)", "as(0, 5)", "as(4, 0)", "ask(3, 1)",
        "ask(2, 0)", "ask(4, 0)", "count(1)", "count(2)", "count(3)", "count(4)", "count(5)"
    };

    private EachCall() {
    }
}
