import java.io.IOException;
import java.nio.file.Files;
import java.nio.file.Path;

/** Where the project's files stand: tests run from build/ci by .ci/run, from the project's folder by hand. */
final class Project {
    private Project() { }

    static Path path(String file) {
        for (String up : new String[] {"", "../../"}) {
            if (Files.exists(Path.of(up + file))) {
                return Path.of(up + file);
            }
        }
        throw new IllegalStateException(file + " is not found");
    }

    static String read(String file) throws IOException {
        return Files.readString(path(file));
    }
}
