import java.util.Arrays;
import java.util.stream.Collectors;

/** A call of the face; a boolean argument counts 1 or 0. */
record Call(String name, int... arguments) {
    String answer(ContainerKit kit) {
        return Calls.answer(kit, name, arguments);
    }

    @Override
    public String toString() {
        return name + Arrays.stream(arguments).mapToObj(String::valueOf).collect(Collectors.joining(", ", "(", ")"));
    }
}
