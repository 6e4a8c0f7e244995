import com.sun.source.tree.*;
import com.sun.source.util.JavacTask;
import com.sun.source.util.SourcePositions;
import com.sun.source.util.TreePath;
import com.sun.source.util.TreePathScanner;
import com.sun.source.util.Trees;
import java.nio.charset.StandardCharsets;
import java.nio.file.Files;
import java.nio.file.Path;
import java.util.ArrayList;
import java.util.LinkedHashMap;
import java.util.LinkedHashSet;
import java.util.List;
import java.util.Map;
import java.util.Set;
import javax.lang.model.element.Element;
import javax.lang.model.element.ElementKind;
import javax.lang.model.element.Modifier;
import javax.lang.model.type.ArrayType;
import javax.lang.model.type.TypeMirror;
import javax.tools.JavaCompiler;
import javax.tools.StandardJavaFileManager;
import javax.tools.ToolProvider;

/**
 * What the compiler's own tree of the file tells of LANGUAGE.md, by the numbers of its rules; the
 * face (rule 1) is FaceTest's. Run from the project's root, or with the path of another file.
 */
public final class LanguageTest {
    private static final String FILE = "src/main/java/EvenSides.java";

    /** Rule 4, as far as a class of numbers can need it. */
    private static final Set<String> LIBRARY = Set.of("String.length", "String.charAt", "String.isEmpty",
        "String.equals", "String.indexOf", "String.substring", "String.toCharArray", "Math.max", "Math.min",
        "Math.abs", "Math.floorDiv", "Math.floorMod", "Integer.compare", "Integer.bitCount", "Long.compare",
        "System.arraycopy", "Arrays.copyOf", "Arrays.copyOfRange", "Arrays.fill");

    /** Rules 2, 6 and 10: what does not stand in the file at all. */
    private static final Set<Tree.Kind> NEVER = Set.of(Tree.Kind.LAMBDA_EXPRESSION, Tree.Kind.MEMBER_REFERENCE,
        Tree.Kind.THROW, Tree.Kind.TRY, Tree.Kind.CATCH, Tree.Kind.SYNCHRONIZED, Tree.Kind.ASSERT,
        Tree.Kind.PACKAGE, Tree.Kind.ANNOTATION, Tree.Kind.SWITCH_EXPRESSION, Tree.Kind.YIELD,
        Tree.Kind.INTERSECTION_TYPE, Tree.Kind.UNION_TYPE, Tree.Kind.EXTENDS_WILDCARD);

    private static final int DEEPEST = 8, LONGEST = 60, PARAMETERS = 7, CLASSES = 12, FIELDS = 20;

    private static int wrong = 0;

    private static void check(boolean right, String rule, String what) {
        if (right) return;
        wrong++;
        System.out.println("rule " + rule + ": " + what);
    }

    /** Goes through the file once; what methods call is kept for the questions behind it. */
    private static final class Look extends TreePathScanner<Void, Element> {
        final Trees trees;
        final CompilationUnitTree unit;
        final Map<Element, Set<Element>> calls = new LinkedHashMap<>();
        int classes;

        Look(Trees trees, CompilationUnitTree unit) {
            this.trees = trees;
            this.unit = unit;
        }

        long line(Tree t) {
            return unit.getLineMap().getLineNumber(trees.getSourcePositions().getStartPosition(unit, t));
        }

        String at(Tree t) {
            return " at line " + line(t);
        }

        TypeMirror typeOf(Tree t) {
            return trees.getTypeMirror(new TreePath(getCurrentPath(), t));
        }

        @Override public Void scan(Tree t, Element in) {
            if (t != null) check(!NEVER.contains(t.getKind()), "2, 6, 10", t.getKind() + at(t));
            return super.scan(t, in);
        }

        @Override public Void visitImport(ImportTree t, Element in) {
            String name = t.getQualifiedIdentifier().toString();
            check(name.matches("java\\.util\\.(Arrays|ArrayList|List|Iterator)") && !t.isStatic(), "4", "import of " + name);
            return super.visitImport(t, in);
        }

        @Override public Void visitClass(ClassTree t, Element in) {
            classes++;
            Set<Modifier> flags = t.getModifiers().getFlags();
            boolean outer = getCurrentPath().getParentPath().getLeaf() instanceof CompilationUnitTree;
            boolean member = outer || getCurrentPath().getParentPath().getLeaf() instanceof ClassTree;
            check(member, "2", "a local or anonymous class" + at(t));
            check(outer || flags.contains(Modifier.STATIC), "2", "a class that is not static" + at(t));
            check(outer || !flags.contains(Modifier.PUBLIC) && !flags.contains(Modifier.PROTECTED), "1",
                "a class that is seen" + at(t));
            int fields = 0;
            for (Tree part : t.getMembers()) {
                boolean constant = part instanceof VariableTree
                    && ((VariableTree) part).getModifiers().getFlags().contains(Modifier.STATIC);
                if (part instanceof VariableTree && !constant) fields++;
                check(!(part instanceof BlockTree), "5", "an initialiser block" + at(part));
            }
            check(fields <= FIELDS, "11", fields + " fields in " + t.getSimpleName());
            return super.visitClass(t, in);
        }

        @Override public Void visitMethod(MethodTree t, Element in) {
            Element me = trees.getElement(getCurrentPath());
            calls.put(me, new LinkedHashSet<>());
            check(t.getParameters().size() <= PARAMETERS, "11", "too many parameters of " + t.getName());
            SourcePositions where = trees.getSourcePositions();
            long end = unit.getLineMap().getLineNumber(Math.max(0, where.getEndPosition(unit, t)));
            check(end - line(t) < LONGEST, "11", "a method of " + (end - line(t)) + " lines: " + t.getName());
            check(t.getThrows().isEmpty(), "6", "throws" + at(t));
            if (t.getReturnType() != null) checkType(typeOf(t.getReturnType()), at(t));
            return super.visitMethod(t, me);
        }

        @Override public Void visitVariable(VariableTree t, Element in) {
            TypeMirror type = typeOf(t.getType());
            Set<Modifier> flags = t.getModifiers().getFlags();
            boolean field = getCurrentPath().getParentPath().getLeaf() instanceof ClassTree;
            checkType(type, at(t));
            if (field && flags.contains(Modifier.STATIC)) {
                check(flags.contains(Modifier.FINAL), "5", "static state" + at(t));
                check(type.toString().matches("(int|long|char|byte)(\\[\\])?|boolean|java\\.lang\\.String"), "5",
                    "a constant of " + type + at(t));
            }
            return super.visitVariable(t, in);
        }

        /** Rule 3: numbers, own classes, texts; rows of numbers of two dimensions, of others of one. */
        void checkType(TypeMirror type, String at) {
            TypeMirror inner = type;
            int rows = 0;
            while (inner instanceof ArrayType) {
                inner = ((ArrayType) inner).getComponentType();
                rows++;
            }
            boolean number = inner.getKind().isPrimitive();
            boolean own = inner.toString().startsWith("EvenSides");
            boolean text = inner.toString().matches("java\\.lang\\.(String|StringBuilder)") || inner.toString().equals("void");
            check(number || own || text, "3", "the type " + type + at);
            check(rows <= (number ? 2 : own ? 1 : 0), "3", "the type " + type + at);
        }

        @Override public Void visitMethodInvocation(MethodInvocationTree t, Element in) {
            Element to = trees.getElement(new TreePath(getCurrentPath(), t.getMethodSelect()));
            check(in != null, "12", "a call outside a method" + at(t));
            if (in != null) calls.get(in).add(to);
            String owner = to.getEnclosingElement().getSimpleName().toString();
            boolean own = trees.getTree(to) != null;
            // The compiler's own call of Object's constructor stands in each constructor.
            boolean made = to.getKind() == ElementKind.CONSTRUCTOR;
            check(own || made || LIBRARY.contains(owner + "." + to.getSimpleName()), "4", owner + "." + to + at(t));
            return super.visitMethodInvocation(t, in);
        }

        @Override public Void visitNewClass(NewClassTree t, Element in) {
            check(t.getClassBody() == null, "2", "an anonymous class" + at(t));
            checkMade(in, at(t));
            return super.visitNewClass(t, in);
        }

        @Override public Void visitNewArray(NewArrayTree t, Element in) {
            checkMade(in, at(t));
            return super.visitNewArray(t, in);
        }

        /** Objects are made with the object alone, so that no run of calls can fill the room. */
        void checkMade(Element in, String at) {
            check(in == null || in.getKind() == ElementKind.CONSTRUCTOR, "12", "an object is made by a call" + at);
        }

        @Override public Void visitTypeCast(TypeCastTree t, Element in) {
            check(typeOf(t.getType()).getKind().isPrimitive(), "6", "a cast" + at(t));
            return super.visitTypeCast(t, in);
        }

        @Override public Void visitBinary(BinaryTree t, Element in) {
            for (Tree side : new Tree[] {t.getLeftOperand(), t.getRightOperand()}) {
                check(typeOf(side).getKind().isPrimitive(), "6, 10", t.getKind() + " of texts or objects" + at(t));
                // The rule lets them stand; the document has whole numbers alone.
                check(!typeOf(side).toString().matches("double|float"), "3", "a number that is not whole" + at(t));
            }
            return super.visitBinary(t, in);
        }

        @Override public Void visitForLoop(ForLoopTree t, Element in) {
            check(t.getCondition() != null, "9", "a loop without an end" + at(t));
            return super.visitForLoop(t, in);
        }

        @Override public Void visitWhileLoop(WhileLoopTree t, Element in) {
            check(t.getCondition().toString().matches("\\(.*[<>].*\\)"), "9", "no bound in while" + at(t));
            return super.visitWhileLoop(t, in);
        }

        @Override public Void visitDoWhileLoop(DoWhileLoopTree t, Element in) {
            check(false, "9", "do" + at(t));
            return super.visitDoWhileLoop(t, in);
        }
    }

    /** Rules 8 and 11: the longest row of calls that can stand open, one that calls itself once. */
    private static List<Element> deepest(Map<Element, Set<Element>> calls, Element from, List<Element> open) {
        open.add(from);
        List<Element> best = new ArrayList<>(open);
        for (Element to : calls.getOrDefault(from, Set.of())) {
            if (to == from) {
                check(from.getModifiers().containsAll(Set.of(Modifier.PRIVATE, Modifier.STATIC)), "8",
                    from + " calls itself and is not private and static");
                continue;
            }
            check(!open.contains(to), "8", "methods that call one another: " + open);
            if (open.contains(to)) continue;
            List<Element> row = deepest(calls, to, open);
            if (row.size() > best.size()) best = row;
        }
        open.remove(open.size() - 1);
        return best;
    }

    private static void checkDepths(Map<Element, Set<Element>> calls) {
        int faces = 0;
        for (Element e : calls.keySet()) {
            if (!e.getModifiers().contains(Modifier.PUBLIC)) continue;
            faces++;
            List<Element> row = deepest(calls, e, new ArrayList<>());
            check(row.size() <= DEEPEST, "11", row.size() + " calls deep: " + row);
        }
        check(faces == 38, "1", faces + " public methods and constructors were found");
    }

    private static void checkTree(String file) throws Exception {
        JavaCompiler compiler = ToolProvider.getSystemJavaCompiler();
        try (StandardJavaFileManager files = compiler.getStandardFileManager(null, null, null)) {
            JavacTask task = (JavacTask) compiler.getTask(null, files, null,
                List.of("--release", "17", "-proc:none"), null, files.getJavaFileObjects(file));
            Iterable<? extends CompilationUnitTree> units = task.parse();
            task.analyze();
            for (CompilationUnitTree unit : units) {
                Look look = new Look(Trees.instance(task), unit);
                look.scan(unit, null);
                check(look.classes <= CLASSES, "11", look.classes + " classes");
                checkDepths(look.calls);
            }
        }
    }

    public static void main(String[] args) throws Exception {
        String file = args.length > 0 ? args[0] : FILE;
        String text = Files.readString(Path.of(file), StandardCharsets.ISO_8859_1);
        check(text.matches("(?s)[\n -~]*"), "4", "a sign that is not 32 to 126");
        checkTree(file);
        System.out.println(wrong == 0 ? "the file keeps to the language" : wrong + " faults of the language");
        if (wrong != 0) System.exit(1);
    }
}
