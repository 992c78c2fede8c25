"""Tells how deep calls go at most (LANGUAGE.md, rule 11: eight), library calls counted: python3 tools/depth.py"""
import glob
import os
import re
import shutil
import subprocess
import tempfile

HOME = os.path.dirname(os.path.dirname(os.path.abspath(__file__)))
built = tempfile.mkdtemp()
subprocess.check_call(['javac', '-d', built, os.path.join(HOME, 'src/main/java/Siegelines.java')])
calls = {}
for file in glob.glob(built + '/*.class'):
    name = os.path.basename(file)[:-6]
    method = None
    for line in subprocess.run(['javap', '-c', '-p', file], capture_output=True, text=True).stdout.split('\n'):
        head = re.match(r'^  (?:[\w\[\]$.<> ]+ )?([\w$.<>]+)\(.*\).*;$', line)
        if head and not line.startswith('    '):
            method = name + '.' + ('"<init>"' if head.group(1) == name else head.group(1))
            calls.setdefault(method, set())
        call = re.search(r'invoke\w+ +#\d+(?:,  \d+)? +// (?:Interface)?Method ([^:]+):', line)
        if call and method:
            called = call.group(1)
            calls[method].add(called if '.' in called else name + '.' + called)
shutil.rmtree(built)


def deepest(method, above=()):
    if method in above:
        return ['calls itself: ' + method] * 99
    ways = [deepest(called, above + (method,)) for called in calls.get(method, ())]
    return [method] + max(ways, key=len, default=[])


ways = sorted((deepest(m) for m in calls if m.startswith('Siegelines.')), key=len, reverse=True)
for way in ways[:5]:
    print(len(way), ' > '.join(way))
