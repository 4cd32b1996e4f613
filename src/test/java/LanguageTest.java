import com.sun.source.tree.AssertTree;
import com.sun.source.tree.BinaryTree;
import com.sun.source.tree.ClassTree;
import com.sun.source.tree.CompilationUnitTree;
import com.sun.source.tree.IdentifierTree;
import com.sun.source.tree.ImportTree;
import com.sun.source.tree.LambdaExpressionTree;
import com.sun.source.tree.LineMap;
import com.sun.source.tree.MemberReferenceTree;
import com.sun.source.tree.MemberSelectTree;
import com.sun.source.tree.MethodInvocationTree;
import com.sun.source.tree.MethodTree;
import com.sun.source.tree.NewArrayTree;
import com.sun.source.tree.NewClassTree;
import com.sun.source.tree.SynchronizedTree;
import com.sun.source.tree.ThrowTree;
import com.sun.source.tree.Tree;
import com.sun.source.tree.TryTree;
import com.sun.source.tree.VariableTree;
import com.sun.source.util.JavacTask;
import com.sun.source.util.SourcePositions;
import com.sun.source.util.TreePathScanner;
import com.sun.source.util.Trees;
import java.nio.file.Files;
import java.nio.file.Path;
import java.util.ArrayList;
import java.util.HashMap;
import java.util.LinkedHashSet;
import java.util.List;
import java.util.Map;
import java.util.Set;
import java.util.TreeSet;
import javax.lang.model.element.Element;
import javax.lang.model.element.ElementKind;
import javax.lang.model.element.Modifier;
import javax.lang.model.type.TypeMirror;
import javax.tools.JavaCompiler;
import javax.tools.StandardJavaFileManager;
import javax.tools.ToolProvider;

/** Holds the class's source against those rules of ../shared/LANGUAGE.md that can be read off it. */
public final class LanguageTest {
    private static final Path SOURCE = Path.of("src/main/java/DownByAHair.java");
    private static final Path DOCUMENT = Path.of("../shared/DOC.md");
    private static final Set<String> LIBRARY = Set.of(
        "java.lang.String.length()", "java.lang.String.charAt(int)", "java.lang.Integer.bitCount(int)",
        "java.lang.Math.abs(int)", "java.lang.Math.max(int,int)", "java.lang.Math.min(int,int)",
        "java.lang.System.arraycopy(java.lang.Object,int,java.lang.Object,int,int)");
    private static final Set<String> CONSTANT_TYPES = Set.of("int", "long", "boolean", "char", "java.lang.String");
    private static final Set<String> CONSTANT_ARRAYS = Set.of("int[]", "long[]", "char[]", "byte[]");
    private static final Set<String> TYPES = Set.of("int", "long", "boolean", "byte", "int[]", "byte[]", "java.lang.String", "void");
    private static int wrong = 0;

    private static void refuse(int rule, String why) {
        wrong++;
        System.out.println("rule " + rule + ": " + why);
    }

    private static String full(Element method) {
        return method.getEnclosingElement() + "." + method;
    }

    private static boolean isOwn(Element element) {
        return element.getEnclosingElement().toString().startsWith("DownByAHair");
    }

    private static final class Scanner extends TreePathScanner<Void, String> {
        final Trees trees;
        final CompilationUnitTree unit;
        final Map<String, Set<String>> calls = new HashMap<>();
        final Set<String> face = new TreeSet<>();
        final Set<String> publicNames = new TreeSet<>();
        final List<String> otherNames = new ArrayList<>();
        int classes;

        Scanner(Trees trees, CompilationUnitTree unit) {
            this.trees = trees;
            this.unit = unit;
        }

        Element element() {
            return trees.getElement(getCurrentPath());
        }

        int lines(Tree tree) {
            SourcePositions positions = trees.getSourcePositions();
            LineMap map = unit.getLineMap();
            return (int) (map.getLineNumber(positions.getEndPosition(unit, tree))
                - map.getLineNumber(positions.getStartPosition(unit, tree)) + 1);
        }

        void type(TypeMirror type, String where) {
            String name = type.toString();
            if (!TYPES.contains(name) && !name.startsWith("DownByAHair")) refuse(3, where + " is of type " + name);
        }

        @Override
        public Void visitClass(ClassTree tree, String in) {
            classes++;
            Element element = element();
            Set<Modifier> modifiers = element.getModifiers();
            boolean outer = element.getEnclosingElement().getKind() == ElementKind.PACKAGE;
            if (outer && !modifiers.equals(Set.of(Modifier.PUBLIC, Modifier.FINAL))) refuse(1, "the class is " + modifiers);
            if (!outer && (!modifiers.contains(Modifier.STATIC) || modifiers.contains(Modifier.PUBLIC))) refuse(2, tree.getSimpleName() + " is " + modifiers);
            int fields = 0;
            for (Element member : element.getEnclosedElements()) {
                boolean field = member.getKind() == ElementKind.FIELD;
                fields += field && !member.getModifiers().contains(Modifier.STATIC) ? 1 : 0;
                if (!outer || member.getKind() == ElementKind.CLASS) continue;
                if (member.getModifiers().contains(Modifier.PUBLIC)) {
                    publicNames.add(member.getSimpleName().toString());
                } else if (!member.getModifiers().contains(Modifier.PRIVATE)) {
                    refuse(1, member + " is neither public nor private");
                }
            }
            if (fields > 20) refuse(11, tree.getSimpleName() + " has " + fields + " fields");
            return super.visitClass(tree, in);
        }

        @Override
        public Void visitMethod(MethodTree tree, String in) {
            Element element = element();
            boolean open = element.getModifiers().contains(Modifier.PUBLIC);
            if (open) face.add(signature(tree));
            else if (!tree.getName().contentEquals("<init>")) otherNames.add(tree.getName().toString());
            if (tree.getParameters().size() > 7) refuse(11, element + " has too many parameters");
            if (lines(tree) > 60) refuse(11, element + " has " + lines(tree) + " lines");
            calls.put(full(element), new LinkedHashSet<>());
            return super.visitMethod(tree, full(element));
        }

        String signature(MethodTree tree) {
            StringBuilder text = new StringBuilder();
            if (tree.getReturnType() != null) text.append(tree.getReturnType()).append(' ').append(tree.getName());
            else text.append("DownByAHair");
            List<String> parameters = new ArrayList<>();
            for (VariableTree parameter : tree.getParameters()) parameters.add(parameter.getType() + " " + parameter.getName());
            return text + "(" + String.join(", ", parameters) + ")";
        }

        @Override
        public Void visitVariable(VariableTree tree, String in) {
            Element element = element();
            TypeMirror type = element.asType();
            if (element.getKind() == ElementKind.FIELD && element.getModifiers().contains(Modifier.STATIC)) {
                boolean fine = element.getModifiers().contains(Modifier.FINAL)
                    && (CONSTANT_TYPES.contains(type.toString()) || CONSTANT_ARRAYS.contains(type.toString()));
                if (!fine) refuse(5, element + " is a static field");
                if (element.getModifiers().contains(Modifier.PUBLIC)) face.add(tree.getType() + " " + tree.getName() + " = " + tree.getInitializer());
            }
            type(type, element.toString());
            return super.visitVariable(tree, in);
        }

        @Override
        public Void visitMethodInvocation(MethodInvocationTree tree, String in) {
            Element called = trees.getElement(new com.sun.source.util.TreePath(getCurrentPath(), tree.getMethodSelect()));
            boolean constructor = called.getKind() == ElementKind.CONSTRUCTOR;
            if (isOwn(called)) {
                if (in != null) calls.get(in).add(full(called));
            } else if (!constructor && !LIBRARY.contains(full(called))) {
                refuse(4, full(called) + " is called in " + in);
            }
            return super.visitMethodInvocation(tree, in);
        }

        @Override
        public Void visitMemberSelect(MemberSelectTree tree, String in) {
            Element element = element();
            if (element != null && element.getKind() == ElementKind.FIELD && !isOwn(element)
                && !tree.getIdentifier().contentEquals("length")) refuse(4, tree + " is used");
            return super.visitMemberSelect(tree, in);
        }

        @Override
        public Void visitIdentifier(IdentifierTree tree, String in) {
            Element element = element();
            if (element != null && element.getKind() == ElementKind.CLASS) {
                String name = element.toString();
                if (!name.startsWith("DownByAHair") && !Set.of("java.lang.String", "java.lang.Integer", "java.lang.Math", "java.lang.System").contains(name)) {
                    refuse(4, name + " is used");
                }
            }
            return super.visitIdentifier(tree, in);
        }

        @Override
        public Void visitNewClass(NewClassTree tree, String in) {
            if (tree.getClassBody() != null) refuse(2, "a class without a name");
            made(in);
            return super.visitNewClass(tree, in);
        }

        @Override
        public Void visitNewArray(NewArrayTree tree, String in) {
            made(in);
            return super.visitNewArray(tree, in);
        }

        /** Calls make nothing, so that a run's room is what its objects are made with. */
        void made(String in) {
            if (in != null && !isConstructor(in)) refuse(12, in + " makes an object");
        }

        static boolean isConstructor(String method) {
            String[] parts = method.replaceAll("\\(.*", "").split("\\.");
            return parts.length > 1 && parts[parts.length - 1].equals(parts[parts.length - 2]);
        }

        @Override
        public Void visitBinary(BinaryTree tree, String in) {
            if (trees.getTypeMirror(getCurrentPath()).toString().equals("java.lang.String")) refuse(10, "texts joined by +");
            return super.visitBinary(tree, in);
        }

        @Override
        public Void visitImport(ImportTree tree, String in) {
            refuse(4, tree.toString().trim());
            return super.visitImport(tree, in);
        }

        @Override
        public Void visitLambdaExpression(LambdaExpressionTree tree, String in) {
            refuse(2, "a lambda");
            return super.visitLambdaExpression(tree, in);
        }

        @Override
        public Void visitMemberReference(MemberReferenceTree tree, String in) {
            refuse(2, "a method reference");
            return super.visitMemberReference(tree, in);
        }

        @Override
        public Void visitThrow(ThrowTree tree, String in) {
            refuse(6, "throw");
            return super.visitThrow(tree, in);
        }

        @Override
        public Void visitTry(TryTree tree, String in) {
            refuse(6, "try");
            return super.visitTry(tree, in);
        }

        @Override
        public Void visitSynchronized(SynchronizedTree tree, String in) {
            refuse(6, "synchronized");
            return super.visitSynchronized(tree, in);
        }

        @Override
        public Void visitAssert(AssertTree tree, String in) {
            refuse(6, "assert");
            return super.visitAssert(tree, in);
        }

        /** How many calls stand open at most; one that comes back to itself is refused, as none is wanted here. */
        int depth(String method, List<String> open) {
            if (open.contains(method)) {
                refuse(8, "recursion: " + open);
                return 0;
            }
            List<String> more = new ArrayList<>(open);
            more.add(method);
            int deepest = 0;
            if (more.size() > 8) System.out.println("calls: " + more);
            for (String called : calls.getOrDefault(method, Set.of())) deepest = Math.max(deepest, depth(called, more));
            return deepest + 1;
        }
    }

    private static Set<String> documentFace() throws Exception {
        Set<String> face = new TreeSet<>();
        for (String line : Files.readAllLines(DOCUMENT)) {
            String text = line.trim();
            if (text.startsWith("public static final ")) face.add(text.substring(20, text.length() - 1));
            else if (text.startsWith("public ") && text.endsWith(";")) face.add(text.substring(7, text.length() - 1));
        }
        return face;
    }

    public static void main(String[] args) throws Exception {
        JavaCompiler compiler = ToolProvider.getSystemJavaCompiler();
        StandardJavaFileManager files = compiler.getStandardFileManager(null, null, null);
        JavacTask task = (JavacTask) compiler.getTask(null, files, null, List.of("-proc:none"), null, files.getJavaFileObjects(SOURCE));
        List<CompilationUnitTree> units = new ArrayList<>();
        task.parse().forEach(units::add);
        task.analyze();
        Scanner scanner = new Scanner(Trees.instance(task), units.get(0));
        scanner.scan(units.get(0), null);
        if (!scanner.face.equals(documentFace())) refuse(1, "the face is " + scanner.face + ", the document's " + documentFace());
        for (String name : scanner.otherNames) {
            if (scanner.publicNames.contains(name)) refuse(1, "another method is named " + name + " too");
        }
        if (scanner.classes > 12) refuse(11, scanner.classes + " classes");
        int deepest = 0;
        for (String method : scanner.calls.keySet()) deepest = Math.max(deepest, scanner.depth(method, List.of()));
        if (deepest > 8) refuse(11, "calls go " + deepest + " deep");
        for (char sign : Files.readString(SOURCE).toCharArray()) {
            if (sign != '\n' && (sign < 32 || sign > 126)) refuse(4, "a sign " + (int) sign);
        }
        System.out.println(wrong == 0
            ? "the source keeps the rules: " + scanner.classes + " classes, " + scanner.calls.size() + " methods, calls " + deepest + " deep"
            : wrong + " breaks of the rules");
        if (wrong != 0) System.exit(1);
    }
}
