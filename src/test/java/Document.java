import java.io.IOException;
import java.io.UncheckedIOException;
import java.nio.charset.StandardCharsets;
import java.nio.file.Files;
import java.nio.file.Path;
import java.util.ArrayList;
import java.util.HashSet;
import java.util.List;
import java.util.Set;

/** The sentences of ../shared/DOC.md, each behind the number of its promise, and which of them have a test. */
final class Document {
  /** Stands for the number of a promise where a sentence is one of the terms. */
  static final int TERMS = 0;

  private static final List<String> sentences = read();
  private static final Set<String> tested = new HashSet<>();

  private Document() {
  }

  /** The sentence as it is told in front of what its test asks. */
  static String sentence(int promise, String words) {
    String sentence = numbered(promise, words);
    Checks.same("whether the document says: " + sentence, sentences.contains(sentence), true);
    tested.add(sentence);
    return sentence;
  }

  /** Every term has a test, and every range, first number and exception of a promise. */
  static void checkAllTested() {
    int asked = 0;
    for (String sentence : sentences) {
      if (sentence.matches("(Terms: |.*: `\\w+`: .*([0-9] to [0-9]|from 0)|.*: Throws ).*")) {
        Checks.same("whether there is a test of: " + sentence, tested.contains(sentence), true);
        asked++;
      }
    }
    Checks.same("terms, ranges, first numbers and exceptions", asked, 28 + 28 + 8 + 51);
  }

  private static String numbered(int promise, String words) {
    return (promise == TERMS ? "Terms" : "Promise " + promise) + ": " + words;
  }

  private static List<String> read() {
    List<String> all = new ArrayList<>();
    int promise = TERMS;
    for (String row : rows()) {
      if (row.startsWith("## Promise ")) {
        promise = Integer.parseInt(row.replaceAll("\\D*(\\d+):.*", "$1"));
      } else if (promise != TERMS) {
        addAll(all, promise, row.replaceFirst("^- ", "").replaceFirst("^`\\w.*?[;)\\w]`: (?=[A-Z])", ""));
      } else if (row.matches("[A-Z][a-z]+\\. .*")) {
        addAll(all, TERMS, row.substring(row.indexOf(' ') + 1));
      } else if (row.startsWith("An object ")) {
        addAll(all, TERMS, row);
      }
    }
    return all;
  }

  private static String[] rows() {
    try {
      String text = Files.readString(Path.of("../shared/DOC.md"), StandardCharsets.UTF_8);
      return text.substring(text.indexOf("## What it is"), text.indexOf("## Not promised")).split("\n");
    } catch (IOException e) {
      throw new UncheckedIOException(e);
    }
  }

  private static void addAll(List<String> all, int promise, String row) {
    for (String words : row.split("(?<=[.]) (?=[A-Z])")) {
      if (!words.isEmpty()) {
        all.add(numbered(promise, words));
      }
    }
  }
}
