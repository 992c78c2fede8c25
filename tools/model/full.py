"""Makes runs of calls on full fields (16 guns, 12 companies, 6 mines, 6 letters) with the answers that are due, for RunsTest.

    python3 full.py SEED RUNS FILE
"""
import random
import sys

from siege import M

R = random.Random(int(sys.argv[1]))
LINES = []


def do(m, name, *arguments):
    answer = m.call(name, arguments)
    LINES.append(' '.join([name] + [str(a) for a in arguments]) + ' -> ' + answer)
    return answer


def field(m):
    wide, high = R.randrange(5, 8), R.randrange(5, 8)
    do(m, 'lay', wide, high, 100)
    last = wide * high - 1
    inner = list(range(1, last))
    R.shuffle(inner)
    for square in inner:
        do(m, 'ground', square, R.randrange(4), R.choice([0, 0, 0, 1, 1, 2, 3]), R.choice([0, 0, 1, 1, 2, 3, 4, 5, 5, 6, 7]),
           R.randrange(1, 60))
    for side in (0, 1):
        do(m, 'stores', side, R.randrange(200, 2000), R.randrange(0, 400), R.randrange(0, 40), R.randrange(20, 101))
    do(m, 'town', R.randrange(0, 400), R.randrange(0, 60), R.randrange(1, 6))
    while len(m.guns) < 16:
        do(m, 'gun', R.randrange(2), R.randrange(last + 1), R.randrange(1, 4))
    while len(m.comps) < 12:
        do(m, 'company', R.randrange(2), R.randrange(last + 1), R.randrange(30, 201))
    do(m, 'begin')
    for company in range(12):
        for direction in R.sample(range(4), 2):
            do(m, 'mine', company, direction)
    for mine in range(len(m.mines)):
        do(m, 'charge', mine, R.randrange(1, 61))
    for _ in range(7):
        do(m, 'letter')
    do(m, 'digest')
    return last


def orders(m, last):
    for gun in range(16):
        if R.random() < .5:
            do(m, 'aim', gun, m.target(gun) if R.random() < .6 else R.randrange(last + 1))
    for company in range(12):
        here = m.comps[company]
        if here['men'] == 0 or R.random() < .4:
            continue
        order = R.choice([0, 2, 3, 4, 4, 5, 5, 5, 1 if here['side'] == 0 else 6])
        goal = R.choice(m.touching(here['sq'])) if order in (1, 5, 6) else R.randrange(last + 1)
        do(m, 'order', company, order, goal)


for _ in range(int(sys.argv[2])):
    model = M()
    LINES.append('new')
    begun = len(LINES)
    last_square = field(model)
    while len(LINES) - begun < 470 and model.phase == 1:
        orders(model, last_square)
        do(model, 'digest')
        if R.random() < .1:
            do(model, 'blow', R.randrange(6))
        for what in range(5):
            do(model, 'forecast', R.randrange(1, 49), what)
        do(model, 'pass', R.choice([1, 1, 1, 2, 5, 24]))
        do(model, 'digest')
    do(model, 'digest')
open(sys.argv[3], 'w').write('\n'.join(LINES) + '\n')
