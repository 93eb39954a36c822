import com.sun.source.tree.AssertTree;
import com.sun.source.tree.BinaryTree;
import com.sun.source.tree.BlockTree;
import com.sun.source.tree.ClassTree;
import com.sun.source.tree.CompilationUnitTree;
import com.sun.source.tree.DoWhileLoopTree;
import com.sun.source.tree.ForLoopTree;
import com.sun.source.tree.LambdaExpressionTree;
import com.sun.source.tree.MemberReferenceTree;
import com.sun.source.tree.MethodInvocationTree;
import com.sun.source.tree.MethodTree;
import com.sun.source.tree.NewArrayTree;
import com.sun.source.tree.NewClassTree;
import com.sun.source.tree.SynchronizedTree;
import com.sun.source.tree.ThrowTree;
import com.sun.source.tree.Tree;
import com.sun.source.tree.TryTree;
import com.sun.source.tree.VariableTree;
import com.sun.source.tree.WhileLoopTree;
import com.sun.source.util.JavacTask;
import com.sun.source.util.TreePathScanner;
import com.sun.source.util.Trees;
import java.io.File;
import java.lang.reflect.Constructor;
import java.lang.reflect.Field;
import java.lang.reflect.Method;
import java.lang.reflect.Modifier;
import java.nio.charset.StandardCharsets;
import java.nio.file.Files;
import java.nio.file.Path;
import java.util.ArrayList;
import java.util.Arrays;
import java.util.HashMap;
import java.util.HashSet;
import java.util.IdentityHashMap;
import java.util.LinkedHashMap;
import java.util.List;
import java.util.Map;
import java.util.Set;
import java.util.TreeSet;
import javax.lang.model.element.Element;
import javax.lang.model.element.ElementKind;
import javax.lang.model.element.ExecutableElement;
import javax.tools.JavaCompiler;
import javax.tools.StandardJavaFileManager;
import javax.tools.ToolProvider;

/** The face of the document, and what of LANGUAGE.md can be measured in the source; what it makes in all. */
public final class LanguageTests {
    private static final String FACE = "feed(int,int,int,int,int)int board(int)int fault()int count(int)int"
            + " village(int,int)int side(int,int)int road(int,int)boolean lawful(int,int)boolean move(int,int)int"
            + " pass()int fly(int,int)boolean teach(int,int)int play(int)int undo()int hangs(int)int look(int,int)int"
            + " win()int journey(int,int)int played(int)int turned(int)int treasury(int,int)int gift(int,int)int"
            + " plant(int,int)int see(int,int,int)int forget()void styles(int)int next(int)int treaty()boolean"
            + " game(int,int,int)int years(int,int,int)int owes(int)int front()int parts(int)int safe(int)int"
            + " reach(int)int guard(int)int key(int)int fork()int regret(int,int)int whose(int)int image()void"
            + " restore()boolean";
    private static final Set<String> LIBRARY = new HashSet<>(Arrays.asList(
            "String.length", "String.charAt", "Integer.bitCount",
            "Math.min", "Math.max", "System.arraycopy"));
    private static final Set<String> EXCEPTIONS = new HashSet<>(Arrays.asList(
            "IllegalArgumentException", "NoSuchElementException"));

    private static int checks = 0;
    private static int wrong = 0;

    private LanguageTests() {
    }

    public static void main(String[] args) throws Exception {
        face();
        words(System.getProperty("villageboard.source", "src/main/java/VillageBoard.java"),
                System.getProperty("villageboard.document", "../shared/DOC.md"));
        source(System.getProperty("villageboard.source", "src/main/java/VillageBoard.java"));
        room();
        System.out.println("LanguageTests: " + checks + " checks, " + wrong + " wrong");
        System.exit(wrong == 0 ? 0 : 1);
    }

    private static void is(boolean good, String what) {
        checks++;
        if (!good) {
            wrong++;
            System.out.println(what);
        }
    }

    private static void face() {
        Class<?> c = VillageBoard.class;
        is(Modifier.isPublic(c.getModifiers()) && Modifier.isFinal(c.getModifiers()), "public and final");
        Set<String> due = new TreeSet<>(Arrays.asList(FACE.split(" ")));
        Set<String> got = new TreeSet<>();
        Set<String> names = new HashSet<>();
        for (Method m : c.getDeclaredMethods()) {
            if (Modifier.isPrivate(m.getModifiers())) {
                continue;
            }
            StringBuilder types = new StringBuilder();
            for (Class<?> p : m.getParameterTypes()) {
                types.append(types.length() == 0 ? "" : ",").append(p.getName());
            }
            got.add(m.getName() + "(" + types + ")" + m.getReturnType().getName());
            names.add(m.getName());
            is(Modifier.isPublic(m.getModifiers()) && !Modifier.isStatic(m.getModifiers()), m + " of the face");
        }
        is(got.equals(due), "the face is " + got);
        for (Method m : c.getDeclaredMethods()) {
            is(!Modifier.isPrivate(m.getModifiers()) || !names.contains(m.getName()), m + " has a public name");
        }
        for (Class<?> in : c.getDeclaredClasses()) {
            is(Modifier.isStatic(in.getModifiers()) && !Modifier.isPublic(in.getModifiers()), in + " is static");
            for (Method m : in.getDeclaredMethods()) {
                is(!names.contains(m.getName()), m + " has a public name");
            }
        }
        for (Field f : c.getDeclaredFields()) {
            is(Modifier.isPrivate(f.getModifiers()) || f.getName().equals("NONE"), f + " is private");
        }
        Constructor<?>[] all = c.getDeclaredConstructors();
        is(all.length == 1 && Modifier.isPublic(all[0].getModifiers()), "one public constructor");
    }

    /** The face by the document's own lines: what a method throws and what its arguments are called, too. */
    private static void words(String program, String document) throws Exception {
        List<String> lines = Files.readAllLines(Path.of(program), StandardCharsets.UTF_8);
        int told = 0;
        for (String line : Files.readAllLines(Path.of(document), StandardCharsets.UTF_8)) {
            if (line.startsWith("    public ") && line.endsWith(";")) {
                told++;
                String due = line.contains(" static ") ? line : line.replace(";", " {");
                is(lines.contains(due), "the face has not:" + due);
            }
        }
        is(told == 44, "the document tells of " + told + " members");
    }

    // ---- the source

    private static void source(String path) throws Exception {
        JavaCompiler compiler = ToolProvider.getSystemJavaCompiler();
        StandardJavaFileManager files = compiler.getStandardFileManager(null, null, null);
        JavacTask task = (JavacTask) compiler.getTask(null, files, null, Arrays.asList("-proc:none"), null,
                files.getJavaFileObjects(new File(path)));
        Iterable<? extends CompilationUnitTree> units = task.parse();
        task.analyze();
        Rules rules = new Rules(Trees.instance(task));
        for (CompilationUnitTree unit : units) {
            is(unit.getPackageName() == null, "no package");
            rules.unit = unit;
            rules.scan(unit, null);
        }
        is(rules.classes <= 13, rules.classes + " classes");
        int deep = rules.deepest();
        is(deep <= 8, "calls go " + deep + " deep: " + rules.deepestWay());
        rules.whatCallsItselfIsPrivate();
        files.close();
    }

    private static final class Rules extends TreePathScanner<Void, Void> {
        final Trees trees;
        final Map<Element, Set<Element>> calls = new LinkedHashMap<>();
        final Map<Element, Integer> depth = new HashMap<>();
        final Map<Element, Element> onward = new HashMap<>();
        CompilationUnitTree unit = null;
        Element method = null;
        int classes = 0;

        Rules(Trees trees) {
            this.trees = trees;
        }

        private String at(Tree tree) {
            long start = trees.getSourcePositions().getStartPosition(unit, tree);
            return "line " + unit.getLineMap().getLineNumber(start) + ": ";
        }

        @Override
        public Void visitClass(ClassTree tree, Void nothing) {
            classes++;
            int fields = 0;
            for (Tree member : tree.getMembers()) {
                if (member instanceof VariableTree v
                        && !v.getModifiers().getFlags().contains(javax.lang.model.element.Modifier.STATIC)) {
                    fields++;
                } else if (member instanceof VariableTree v) {
                    is(v.getModifiers().getFlags().contains(javax.lang.model.element.Modifier.FINAL)
                            && Set.of("int", "String").contains(v.getType().toString()), at(v) + "a constant");
                }
                is(!(member instanceof BlockTree), at(member) + "no initialiser");
            }
            is(fields <= 20, tree.getSimpleName() + " has " + fields + " fields");
            return super.visitClass(tree, nothing);
        }

        @Override
        public Void visitMethod(MethodTree tree, Void nothing) {
            method = trees.getElement(getCurrentPath());
            calls.put(method, new HashSet<>());
            is(tree.getParameters().size() <= 7, at(tree) + "seven parameters");
            long first = unit.getLineMap().getLineNumber(trees.getSourcePositions().getStartPosition(unit, tree));
            long end = trees.getSourcePositions().getEndPosition(unit, tree);
            if (end >= 0) {
                long lines = unit.getLineMap().getLineNumber(end) - first + 1;
                is(lines <= 60, at(tree) + lines + " lines");
            }
            super.visitMethod(tree, nothing);
            method = null;
            return nothing;
        }

        @Override
        public Void visitMethodInvocation(MethodInvocationTree tree, Void nothing) {
            ExecutableElement called = (ExecutableElement) trees.getElement(getCurrentPath());
            Element owner = called.getEnclosingElement();
            String name = owner.getSimpleName() + "." + called.getSimpleName();
            boolean library = owner.toString().startsWith("java.");
            boolean makes = called.getKind() == ElementKind.CONSTRUCTOR;
            if (!makes) {
                is(!library || LIBRARY.contains(name), at(tree) + name + " isn't in the library");
            }
            if (method != null) {
                calls.get(method).add(called);
            }
            return super.visitMethodInvocation(tree, nothing);
        }

        @Override
        public Void visitNewClass(NewClassTree tree, Void nothing) {
            boolean thrown = getCurrentPath().getParentPath().getLeaf() instanceof ThrowTree;
            is(method == null || thrown, at(tree) + "made outside of constructors");
            is(!thrown || EXCEPTIONS.contains(tree.getIdentifier().toString()), at(tree) + "another exception");
            return super.visitNewClass(tree, nothing);
        }

        @Override
        public Void visitNewArray(NewArrayTree tree, Void nothing) {
            is(method == null, at(tree) + "made outside of constructors");
            return super.visitNewArray(tree, nothing);
        }

        @Override
        public Void visitForLoop(ForLoopTree tree, Void nothing) {
            is(tree.getCondition() != null && tree.getUpdate().size() == 1, at(tree) + "a counter against a bound");
            return super.visitForLoop(tree, nothing);
        }

        @Override
        public Void visitBinary(BinaryTree tree, Void nothing) {
            String type = String.valueOf(trees.getTypeMirror(getCurrentPath()));
            is(!type.equals("java.lang.String"), at(tree) + "texts joined by +");
            return super.visitBinary(tree, nothing);
        }

        private Void refuse(Tree tree, String what) {
            is(false, at(tree) + what);
            return null;
        }

        @Override
        public Void visitTry(TryTree tree, Void nothing) {
            return refuse(tree, "try");
        }

        @Override
        public Void visitWhileLoop(WhileLoopTree tree, Void nothing) {
            return refuse(tree, "while: its end can't be seen here");
        }

        @Override
        public Void visitDoWhileLoop(DoWhileLoopTree tree, Void nothing) {
            return refuse(tree, "do: its end can't be seen here");
        }

        @Override
        public Void visitLambdaExpression(LambdaExpressionTree tree, Void nothing) {
            return refuse(tree, "lambda");
        }

        @Override
        public Void visitMemberReference(MemberReferenceTree tree, Void nothing) {
            return refuse(tree, "method reference");
        }

        @Override
        public Void visitSynchronized(SynchronizedTree tree, Void nothing) {
            return refuse(tree, "synchronized");
        }

        @Override
        public Void visitAssert(AssertTree tree, Void nothing) {
            return refuse(tree, "assert");
        }

        /** Without recursion: a call of what is open already counts for nothing. */
        private int depthOf(Element of, Set<Element> open) {
            if (open.isEmpty() && depth.containsKey(of)) {
                return depth.get(of);
            }
            open.add(of);
            int most = 0;
            for (Element called : calls.getOrDefault(of, Set.of())) {
                int one = open.contains(called) ? 0 : depthOf(called, open);
                if (one > most) {
                    most = one;
                    onward.put(of, called);
                }
            }
            open.remove(of);
            depth.put(of, most + 1);
            return most + 1;
        }

        private Set<Element> calledBy(Element of) {
            Set<Element> known = new HashSet<>();
            List<Element> open = new ArrayList<>(calls.getOrDefault(of, Set.of()));
            while (!open.isEmpty()) {
                Element one = open.remove(open.size() - 1);
                if (known.add(one)) {
                    open.addAll(calls.getOrDefault(one, Set.of()));
                }
            }
            return known;
        }

        void whatCallsItselfIsPrivate() {
            int found = 0;
            for (Element e : calls.keySet()) {
                if (calledBy(e).contains(e)) {
                    found++;
                    is(e.getModifiers().contains(javax.lang.model.element.Modifier.PRIVATE),
                            e.getSimpleName() + " calls itself and isn't private");
                }
            }
            is(found > 0, "something calls itself");
        }

        int deepest() {
            int most = 0;
            for (Element e : calls.keySet()) {
                most = Math.max(most, depthOf(e, new HashSet<>()));
            }
            return most;
        }

        String deepestWay() {
            Element at = null;
            for (Element e : calls.keySet()) {
                at = at == null || depth.get(e) > depth.get(at) ? e : at;
            }
            StringBuilder way = new StringBuilder();
            for (int i = 0; i < 20 && at != null; i++) {
                way.append(at.getSimpleName()).append(' ');
                at = onward.get(at);
            }
            return way.toString();
        }
    }

    // ---- the room

    /** An object's calls make nothing but exceptions, so what it holds at first is what it needs. */
    private static void room() throws Exception {
        Map<Object, Boolean> known = new IdentityHashMap<>();
        List<Object> open = new ArrayList<>();
        open.add(new VillageBoard());
        int parts = 0;
        while (!open.isEmpty()) {
            Object one = open.remove(open.size() - 1);
            if (known.put(one, true) != null) {
                continue;
            }
            if (one instanceof int[] row) {
                parts += row.length;
                continue;
            }
            for (Field f : one.getClass().getDeclaredFields()) {
                if (!Modifier.isStatic(f.getModifiers())) {
                    f.setAccessible(true);
                    parts++;
                    if (!f.getType().isPrimitive() && f.get(one) != null) {
                        open.add(f.get(one));
                    }
                }
            }
        }
        System.out.println("a board is " + known.size() + " objects with " + parts + " fields and elements");
        is(known.size() <= 100, known.size() + " objects");
        is(parts <= 7000, parts + " fields and elements");
    }
}
