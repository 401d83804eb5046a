import java.io.IOException;
import java.lang.reflect.InvocationTargetException;
import java.lang.reflect.Method;
import java.nio.file.Path;
import java.util.Arrays;
import java.util.Comparator;
import java.util.List;

/**
 * All promises, sentence by sentence: runs each test that quotes the document, and looks whether the words that it
 * quotes stand there, and whether each word of the terms and of the promises is quoted by a test.
 *
 * <p>With an argument it runs those tests alone whose names begin with it: "p04", or "p04TooMany".
 */
public final class SentencesTest {
    private static final List<Class<?>> TESTS = List.of(SettingsAndJobsSentences.class, ChangesSentences.class,
            PrintingSentences.class, ViewsSentences.class, WhatIfSentences.class, TextsSentences.class,
            HistorySentences.class, ErrorsSentences.class);

    public static void main(String[] args) throws IOException, IllegalAccessException {
        Document document = new Document(Path.of("../shared/DOC.md"));
        String prefix = args.length == 0 ? "p" : args[0];
        int sentences = 0;
        for (Class<?> tests : TESTS) {
            Method[] methods = tests.getDeclaredMethods();
            Arrays.sort(methods, Comparator.comparing(Method::getName));
            for (Method method : methods) {
                if (isTest(method) && method.getName().startsWith(prefix)) {
                    run(document, method);
                    sentences++;
                }
            }
        }
        if (args.length == 0) {
            Check.begin("the words of the document");
            for (String rest : document.unquoted()) {
                Check.isTrue("a test quotes " + rest, false);
            }
        }
        System.out.println(sentences + " tests of sentences");
        Check.isTrue("there are tests of " + prefix, sentences > 0);
        Check.end();
    }

    private static boolean isTest(Method method) {
        return method.getName().matches("p\\d\\d[A-Z0-9]\\w*");
    }

    private static void run(Document document, Method method) throws IllegalAccessException {
        Sentence sentence = method.getAnnotation(Sentence.class);
        Check.begin(method.getName());
        Check.isTrue("it tells its sentence", sentence != null);
        if (sentence == null) {
            return;
        }
        Check.begin(method.getName() + " (promise " + sentence.promise() + ": " + sentence.words() + ")");
        Check.isTrue("its name tells its promise",
                method.getName().startsWith(String.format("p%02d", sentence.promise())));
        Check.isTrue("the document says so", document.quote(sentence.promise(), sentence.words()));
        try {
            method.invoke(null);
        } catch (InvocationTargetException e) {
            Check.isTrue("it ends without " + e.getCause(), false);
        }
    }
}
