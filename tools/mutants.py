"""Changes one operator or number of the class at a time and tells which changes no test notices.

    python3 tools/mutants.py TEST,TEST,.. FILE     (some twenty minutes on eight cores)

What lives is written to FILE: a test that is missing, or a change that means the same.
"""
import collections
import multiprocessing
import os
import re
import shutil
import subprocess
import sys
import tempfile

HOME = os.path.dirname(os.path.dirname(os.path.abspath(__file__)))
CLASS = os.path.join(HOME, 'src/main/java/Siegelines.java')
LINES = open(CLASS).read().split('\n')
SWAPS = [(' < ', [' <= ']), (' <= ', [' < ']), (' > ', [' >= ']), (' >= ', [' > ']), (' == ', [' != ']),
         (' != ', [' == ']), (' && ', [' || ']), (' || ', [' && ']), (' + ', [' - ']), (' - ', [' + ']),
         (' * ', [' / ', ' + ']), (' / ', [' * ']), (' % ', [' / ']), (' += ', [' -= ', ' = ']),
         (' -= ', [' += ', ' = '])]
WORKS = ['PLAIN', 'WALL', 'DITCH', 'TOWN', 'COVER', 'TRENCH', 'BREACH', 'CRATER']
RUN_ALL = '''public class RunAll { public static void main(String[] tests) throws Exception {
    for (String test : tests) {
        java.lang.reflect.Method main = Class.forName(test).getDeclaredMethod("main", String[].class);
        main.setAccessible(true);
        main.invoke(null, (Object) new String[0]);
    }
    System.exit(0);
} }'''


def operand_end(line, at, step):
    """Where the operand that begins at this place ends: at the next && or ||, ?, ; or at a bracket of its own."""
    depth = 0
    while 0 <= at < len(line):
        sign = line[at]
        opens, closes = ('(', ')') if step > 0 else (')', '(')
        if sign == opens:
            depth += 1
        elif sign == closes:
            if depth == 0:
                return at
            depth -= 1
        elif depth == 0 and (sign in '?;=' and line[at - 1:at + 1] not in ('==', '!=', '<=', '>=')
                             and line[at:at + 2] != '==' or line[at:at + 2] in ('&&', '||')
                             or line[at - 1:at + 1] in ('&&', '||')):
            return at
        at += step
    return at


def without_operands(line):
    """One of the conditions that && and || join is left out."""
    for at in re.finditer(r' (&&|\|\|) ', line):
        right = operand_end(line, at.end(), 1)
        yield line[:at.start()] + line[right:]
        left = operand_end(line, at.start() - 1, -1)
        word = re.match(r'\s*(return )?', line[left + 1:at.start()]).group() if left < 0 or line[left] != '(' else ''
        yield line[:left + 1] + (word or (' ' if line[left] in '=|&?' else '')) + line[at.end():]


def changes_of(line):
    """Lines to put in the place of this one."""
    text = line.strip()
    if not text or text.startswith(('/**', '*', '//')):
        return
    for new in without_operands(line):
        yield new
    for old, news in SWAPS:
        for at in re.finditer(re.escape(old), line):
            for new in news:
                yield line[:at.start()] + new + line[at.end():]
    if 'Exception(' not in line:
        for at in re.finditer(r'(?<![\w."])(\d+)(?![\w"])', line):
            for number in (int(at.group(1)) + 1, int(at.group(1)) - 1):
                if number >= 0:
                    yield line[:at.start()] + str(number) + line[at.end():]
    for at in re.finditer(r'\btrue\b|\bfalse\b', line):
        yield line[:at.start()] + ('false' if at.group() == 'true' else 'true') + line[at.end():]
    for at in re.finditer(r'(?<!\w)!(?=[\w(])', line):
        yield line[:at.start()] + line[at.end():]
    if 'static final' not in line:
        for old, new in (('BESIEGERS', 'GARRISON'), ('GARRISON', 'BESIEGERS')):
            for at in re.finditer(old, line):
                yield line[:at.start()] + new + line[at.end():]
        for i, work in enumerate(WORKS):
            for at in re.finditer(r'\b' + work + r'\b', line):
                yield line[:at.start()] + WORKS[(i + 1) % 8] + line[at.end():]
    isStatement = re.match(r'^\s+[\w.\[\]()]+(\s*[-+*]?= ?|\(|\+\+|--)[^{}]*;$', line)
    isOther = re.match(r'^\s+(int|boolean|long|final|private|static|return|case|throw|char|String)\b', line)
    if (isStatement and not isOther) or text in ('break;', 'continue;'):
        yield re.match(r'^\s*', line).group() + ';'


def mutants():
    seen = set()
    for number, line in enumerate(LINES):
        for new in changes_of(line) or ():
            if new != line and (number, new) not in seen:
                seen.add((number, new))
                yield number, new


ALL = list(mutants())


def compiled(folder, files):
    return subprocess.run(['javac', '-encoding', 'UTF-8', '-nowarn', '-d', folder] + files,
                          capture_output=True).returncode == 0


def fate(job):
    index, base, tests = job
    number, new = ALL[index]
    folder = tempfile.mkdtemp()
    try:
        changed = list(LINES)
        changed[number] = new
        file = os.path.join(folder, 'Siegelines.java')
        with open(file, 'w') as out:
            out.write('\n'.join(changed))
        if not compiled(folder, [file]):
            return index, 'does not compile'
        run = subprocess.run(['java', '-XX:+UseSerialGC', '-cp', folder + ':' + base, 'RunAll'] + tests,
                             capture_output=True, cwd=HOME, timeout=60)
        return index, 'noticed' if run.returncode else 'LIVES'
    except subprocess.TimeoutExpired:
        return index, 'does not end'
    finally:
        shutil.rmtree(folder)


def main():
    tests, file = sys.argv[1].split(','), sys.argv[2]
    base = tempfile.mkdtemp()
    with open(os.path.join(base, 'RunAll.java'), 'w') as out:
        out.write(RUN_ALL)
    folder = os.path.join(HOME, 'src/test/java')
    sources = [os.path.join(folder, name) for name in os.listdir(folder)]
    if not compiled(base, sources + [CLASS, os.path.join(base, 'RunAll.java')]):
        sys.exit('the tests do not compile')
    with multiprocessing.Pool() as pool:
        fates = dict(pool.imap_unordered(fate, [(i, base, tests) for i in range(len(ALL))]))
    shutil.rmtree(base)
    print(dict(collections.Counter(fates.values())))
    with open(file, 'w') as out:
        for index in sorted(fates):
            if fates[index] in ('LIVES', 'does not end'):
                number, new = ALL[index]
                out.write('%s, line %d\n   - %s\n   + %s\n' % (fates[index], number + 1, LINES[number].strip(), new.strip()))


if __name__ == '__main__':
    main()
