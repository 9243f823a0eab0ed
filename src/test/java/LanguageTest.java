import com.sun.source.tree.*;
import com.sun.source.util.JavacTask;
import com.sun.source.util.SourcePositions;
import com.sun.source.util.TreeScanner;
import com.sun.source.util.Trees;
import java.io.IOException;
import java.nio.file.Files;
import java.nio.file.Path;
import java.util.ArrayList;
import java.util.HashMap;
import java.util.List;
import java.util.Map;
import java.util.Set;
import java.util.TreeSet;
import java.util.regex.Matcher;
import java.util.regex.Pattern;
import javax.lang.model.element.Modifier;
import javax.tools.JavaCompiler;
import javax.tools.StandardJavaFileManager;
import javax.tools.ToolProvider;

/** The rules of LANGUAGE.md that can be read from the source; run from the project's folder. */
public final class LanguageTest extends TreeScanner<Void, Void> {
    private static final Path SOURCE = Path.of("src/main/java/HeWreckedHimself.java");
    private static final Path DOCUMENT = Path.of("../shared/DOC.md");
    private static final Set<String> LIBRARY = Set.of("Integer.bitCount", "Math.max", "Math.min", "Math.abs",
        "System.arraycopy", "length", "charAt", "isEmpty", "indexOf");
    private static final Set<Tree.Kind> FORBIDDEN = Set.of(Tree.Kind.THROW, Tree.Kind.TRY, Tree.Kind.CATCH,
        Tree.Kind.SYNCHRONIZED, Tree.Kind.ASSERT, Tree.Kind.LAMBDA_EXPRESSION, Tree.Kind.MEMBER_REFERENCE,
        Tree.Kind.IMPORT, Tree.Kind.PACKAGE, Tree.Kind.SWITCH_EXPRESSION, Tree.Kind.FLOAT_LITERAL,
        Tree.Kind.DOUBLE_LITERAL, Tree.Kind.INSTANCE_OF);
    private static final int MOST_LINES = 60;
    private static final int MOST_PARAMETERS = 7;
    private static final int DEEPEST = 8;
    private static final int MOST_CLASSES = 12;
    private static final int MOST_FIELDS = 20;

    private final Checks checks = new Checks();
    private final CompilationUnitTree unit;
    private final SourcePositions positions;
    private final Map<String, Set<String>> callsOf = new HashMap<>();
    private final Set<String> ownNames = new TreeSet<>();
    private final Set<String> publicFace = new TreeSet<>();
    private final List<String> hiddenNames = new ArrayList<>();
    private int classes = 0;
    private int loops = 0;
    private String method = "";

    private LanguageTest(CompilationUnitTree unit, SourcePositions positions) {
        this.unit = unit;
        this.positions = positions;
    }

    public static void main(String[] args) throws IOException {
        JavaCompiler compiler = ToolProvider.getSystemJavaCompiler();
        try (StandardJavaFileManager files = compiler.getStandardFileManager(null, null, null)) {
            JavacTask task = (JavacTask) compiler.getTask(null, files, null, List.of("-proc:none"), null,
                files.getJavaFileObjects(SOURCE));
            CompilationUnitTree unit = task.parse().iterator().next();
            LanguageTest test = new LanguageTest(unit, Trees.instance(task).getSourcePositions());
            test.readNames();
            test.scan(unit, null);
            test.lookAtAll();
            test.checks.end();
        }
    }

    private void readNames() {
        new TreeScanner<Void, Void>() {
            @Override public Void visitMethod(MethodTree tree, Void none) {
                ownNames.add(tree.getName().toString());
                return super.visitMethod(tree, none);
            }
        }.scan(unit, null);
    }

    private long lineOf(Tree tree) {
        return unit.getLineMap().getLineNumber(positions.getStartPosition(unit, tree));
    }

    private void must(boolean holds, int rule, Tree tree, String what) {
        if (holds) checks.due("rule " + rule, 0, 0);
        else checks.note("rule " + rule + ", line " + lineOf(tree) + ": " + what);
    }

    @Override public Void scan(Tree tree, Void none) {
        if (tree != null) must(!FORBIDDEN.contains(tree.getKind()), 6, tree, "" + tree.getKind());
        return super.scan(tree, none);
    }

    @Override public Void visitClass(ClassTree tree, Void none) {
        classes++;
        boolean isFace = tree.getSimpleName().contentEquals("HeWreckedHimself");
        Set<Modifier> flags = tree.getModifiers().getFlags();
        must(flags.contains(Modifier.FINAL), 1, tree, "no final class");
        must(isFace ? flags.contains(Modifier.PUBLIC) : flags.contains(Modifier.STATIC) && flags.contains(Modifier.PRIVATE),
            2, tree, "a class's modifiers");
        int fields = 0;
        for (Tree member : tree.getMembers()) {
            if (member instanceof VariableTree field) {
                if (lookAtField(field)) fields++;
            } else if (member instanceof MethodTree own) {
                lookAtMember(isFace, own);
            } else {
                must(member instanceof ClassTree, 5, member, "a member that is no field, method or class");
            }
        }
        must(fields <= MOST_FIELDS, 11, tree, fields + " fields");
        return super.visitClass(tree, none);
    }

    /** Whether it is a field of each object. */
    private boolean lookAtField(VariableTree field) {
        Set<Modifier> flags = field.getModifiers().getFlags();
        must(flags.contains(Modifier.PRIVATE), 1, field, "a field that isn't private");
        boolean isStatic = flags.contains(Modifier.STATIC);
        must(!isStatic || flags.contains(Modifier.FINAL), 5, field, "a static field that isn't final");
        String type = field.getType().toString();
        must(!isStatic || Set.of("int", "long", "boolean", "char", "String", "int[]").contains(type), 5, field, type);
        return !isStatic;
    }

    private void lookAtMember(boolean isFace, MethodTree own) {
        Set<Modifier> flags = own.getModifiers().getFlags();
        if (isFace && flags.contains(Modifier.PUBLIC)) {
            StringBuilder head = new StringBuilder(own.getName());
            for (VariableTree parameter : own.getParameters()) head.append(' ').append(parameter.getType());
            publicFace.add(own.getReturnType() + " " + head);
            return;
        }
        must(!isFace || flags.contains(Modifier.PRIVATE), 1, own, "a member of the face that isn't private");
        if (!own.getName().contentEquals("<init>")) hiddenNames.add(own.getName().toString());
    }

    @Override public Void visitMethod(MethodTree tree, Void none) {
        long last = unit.getLineMap().getLineNumber(positions.getEndPosition(unit, tree));
        must(last - lineOf(tree) < MOST_LINES, 11, tree, "a long method");
        must(tree.getParameters().size() <= MOST_PARAMETERS, 11, tree, "parameters");
        method = tree.getName() + "/" + tree.getParameters().size();
        callsOf.computeIfAbsent(method, m -> new TreeSet<>());
        super.visitMethod(tree, none);
        method = "";
        return null;
    }

    @Override public Void visitMethodInvocation(MethodInvocationTree tree, Void none) {
        String called = tree.getMethodSelect().toString();
        String name = called.substring(called.lastIndexOf('.') + 1);
        if (ownNames.contains(name)) callsOf.get(method).add(name + "/" + tree.getArguments().size());
        else must(LIBRARY.contains(called) || LIBRARY.contains(name), 4, tree, called);
        return super.visitMethodInvocation(tree, none);
    }

    @Override public Void visitMemberSelect(MemberSelectTree tree, Void none) {
        boolean isConstant = Set.of("Integer", "Long", "Math").contains(tree.getExpression().toString())
            && tree.getIdentifier().toString().matches("[A-Z_]+");
        must(!isConstant, 4, tree, tree + " is no function");
        return super.visitMemberSelect(tree, none);
    }

    @Override public Void visitNewArray(NewArrayTree tree, Void none) {
        must(method.isEmpty() || method.startsWith("<init>"), 12, tree, "an array that a call makes");
        return super.visitNewArray(tree, none);
    }

    @Override public Void visitNewClass(NewClassTree tree, Void none) {
        must(method.isEmpty() || method.startsWith("<init>"), 12, tree, "an object that a call makes");
        must(tree.getClassBody() == null, 2, tree, "an anonymous class");
        return super.visitNewClass(tree, none);
    }

    @Override public Void visitTypeCast(TypeCastTree tree, Void none) {
        must(tree.getType() instanceof PrimitiveTypeTree, 6, tree, "a cast to a class");
        return super.visitTypeCast(tree, none);
    }

    @Override public Void visitBinary(BinaryTree tree, Void none) {
        boolean joinsText = tree.getKind() == Tree.Kind.PLUS && (tree.getLeftOperand().getKind() == Tree.Kind.STRING_LITERAL
            || tree.getRightOperand().getKind() == Tree.Kind.STRING_LITERAL);
        must(!joinsText, 10, tree, "texts joined by +");
        return super.visitBinary(tree, none);
    }

    @Override public Void visitLiteral(LiteralTree tree, Void none) {
        if (tree.getValue() instanceof String text) {
            must(text.chars().allMatch(c -> c >= 1 && c <= 127), 4, tree, "a constant's signs");
        }
        return super.visitLiteral(tree, none);
    }

    @Override public Void visitForLoop(ForLoopTree tree, Void none) {
        loops++;
        must(tree.getCondition() != null && !tree.getUpdate().isEmpty(), 9, tree, "a loop without an end");
        return super.visitForLoop(tree, none);
    }

    /** Calls that stand open at once from a method on; a call that comes round again counts as endless. */
    private int depthOf(String name, int above) {
        if (above > 100) return 100;
        int deepest = 0;
        for (String called : callsOf.getOrDefault(name, Set.of())) {
            deepest = Math.max(deepest, depthOf(called, above + 1));
        }
        return deepest + 1;
    }

    private void lookAtAll() throws IOException {
        must(classes <= MOST_CLASSES, 11, unit, classes + " classes");
        must(loops > 0, 9, unit, "no loops were looked at");
        Set<String> document = new TreeSet<>();
        Matcher face = Pattern.compile("    public (int|long) (\\w+)\\(([^)]*)\\);").matcher(Files.readString(DOCUMENT));
        while (face.find()) {
            String types = face.group(3).replaceAll("(\\w+) \\w+,? ?", " $1");
            document.add(face.group(1) + " " + face.group(2) + types);
        }
        publicFace.removeIf(head -> head.endsWith("<init>"));
        must(document.size() == 32 && document.equals(publicFace), 1, unit, "the face: " + publicFace);
        for (String hidden : hiddenNames) {
            boolean isPublic = document.stream().anyMatch(head -> head.split(" ")[1].equals(hidden));
            must(!isPublic, 1, unit, "a hidden method bears a public name: " + hidden);
        }
        for (String name : callsOf.keySet()) {
            int deep = depthOf(name, 0);
            must(deep <= DEEPEST, 11, unit, "calls from " + name + " go " + deep + " deep");
        }
        int deepest = callsOf.keySet().stream().mapToInt(name -> depthOf(name, 0)).max().orElse(0);
        System.out.println(classes + " classes, " + callsOf.size() + " methods, calls " + deepest + " deep");
    }
}
