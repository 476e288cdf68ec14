import java.io.IOException;
import java.nio.file.Files;
import java.nio.file.Path;
import java.util.ArrayList;
import java.util.List;

/**
 * The examples of README.md, call by call in its order: what is due is what README.md says behind each. The code here is
 * that of README.md once more, so a line that is changed there must be changed here.
 */
public final class ReadmeTest {
    private static final Path README = Path.of("README.md");
    private static final Path SELF = Path.of("src/test/java/ReadmeTest.java");

    /** The lines of code that have an answer behind them. */
    private static final List<String> answered = new ArrayList<>();
    private static int asked;

    private ReadmeTest() {
    }

    public static void main(String[] args) throws IOException {
        readExamples();
        LeapNet net = new LeapNet();
        due(net.leap(1, 1), "net.leap(1, 1);");
        int teller = net.clock(0);
        due(teller, "int teller = net.clock(0);");
        int other = net.clock(0);
        due(other, "int other = net.clock(0);");
        int server = net.server(2);
        due(server, "int server = net.server(2);");
        due(net.notice(server, teller, 1, 1, 100), "net.notice(server, teller, 1, 1, 100);");
        due(net.shows(teller, 172_800), "net.shows(teller, 172_800);");
        due(net.shows(other, 172_800), "net.shows(other, 172_800);");
        due(net.off(other, teller, 172_801), "net.off(other, teller, 172_801);");
        due(net.step(other, 172_900), "net.step(other, 172_900);");
        due(net.off(other, teller, 172_900), "net.off(other, teller, 172_900);");

        due(net.shows(7, 172_800), "net.shows(7, 172_800);");
        due(net.status(), "net.status();");
        due(net.leap(10_000, 1), "net.leap(10_000, 1);");
        due(net.status(), "net.status();");
        due(net.ahead(other, 172_900), "net.ahead(other, 172_900);");
        due(net.status(), "net.status();");

        texts(net, teller);
        Check.due("lines of README.md that have an answer", asked, answered.size());
        Check.end("ReadmeTest");
    }

    private static void texts(LeapNet net, int teller) {
        String rules = "believe: if stratum < 4 and ahead < 30 then 1 else 0;";
        lay(net, rules);
        due(net.rules(rules.length(), 0), "net.rules(rules.length(), 0);");
        due(net.told(0, 1), "net.told(0, 1);");
        String faulty = "stamp; wait 0;";
        lay(net, faulty);
        due(net.program(faulty.length()), "net.program(faulty.length());");
        due(net.status(), "net.status();");
        due(net.fault(0), "net.fault(0);");
        due(net.fault(1), "net.fault(1);");
        String program = "stamp; wait 2; parse fold;";
        lay(net, program);
        due(net.program(program.length()), "net.program(program.length());");
        due(net.run(teller, 172_798), "net.run(teller, 172_798);");
        due(net.ran(0), "net.ran(0);");
        due(net.kept(0), "net.kept(0);");
        due(net.kept(1), "net.kept(1);");
    }

    static void lay(LeapNet net, String text) {
        for (int i = 0; i < text.length(); i += 20) {
            int[] five = new int[5];
            for (int k = 0; k < 20; k++) {
                int sign = i + k < text.length() ? text.charAt(i + k) : ' ';
                five[k / 4] = five[k / 4] << 8 | sign;
            }
            net.feed(five[0], five[1], five[2], five[3], five[4]);
        }
    }

    private static void due(Object got, String code) {
        String line = asked < answered.size() ? answered.get(asked) : "";
        asked++;
        int behind = line.indexOf("//");
        String said = behind < 0 ? "nothing" : line.substring(behind + 2).trim().split("[: ]")[0];
        Check.due("README.md's line " + asked + " is " + code, line.startsWith(code + " "), true);
        Check.due(code + " gave " + got + ", README.md says " + said, got.toString().equals(said), true);
    }

    /** Every line of code in README.md must stand here, too. */
    private static void readExamples() throws IOException {
        String self = Files.readString(SELF).replaceAll("\\s+", " ");
        boolean isCode = false;
        for (String line : Files.readAllLines(README)) {
            if (line.startsWith("```")) {
                isCode = line.equals("```java");
            } else if (isCode && line.contains("//")) {
                answered.add(line);
            } else if (isCode) {
                Check.due("README.md's line " + line.trim() + " stands in ReadmeTest", self.contains(line.trim()), true);
            }
        }
    }
}
