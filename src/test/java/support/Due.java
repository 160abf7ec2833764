/** The exceptions that the document names, as Checks.outcome tells them. */
enum Due {
    INDEX("java.lang.IndexOutOfBoundsException"),
    ARGUMENT("java.lang.IllegalArgumentException"),
    STATE("java.lang.IllegalStateException"),
    NO_ELEMENT("java.util.NoSuchElementException");

    final String outcome;

    Due(String name) {
        outcome = "throws." + name;
    }
}
