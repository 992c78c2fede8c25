"""Makes random runs of calls with the answers that are due, for RunsTest.

    python3 runs.py SEED RUNS CALLS FILE
    java -cp BUILT RunsTest FILE
"""
import random,sys,collections
from siege import M
seed=int(sys.argv[1]); runs=int(sys.argv[2]); calls=int(sys.argv[3])
R=random.Random(seed)
DIGESTS=float(sys.argv[5]) if len(sys.argv)>5 else 1
cmds=[];want=[];stat=collections.Counter()
def do(m,name,*a):
    cmds.append(' '.join([name]+[str(x) for x in a]))
    r=m.call(name,a); want.append(r); stat[name+(':throw' if 'Exception' in r else '')]+=1
    return r
BIG=[-2147483648,2147483647,-2,-1,99,1000,144,100000]
def weird(x): return R.choice(BIG) if R.random()<0.03 else x
def rq(m):
    n=m.n()
    if R.random()<0.03: return R.choice([-1,n,n+1,-2147483648,2147483647])
    return R.randrange(max(1,n))
def near(m,q):
    if not m.ok(q): return rq(m)
    t=m.touching(q); return R.choice(t) if R.random()<.85 else rq(m)
def setup(m):
    for _ in range(R.randrange(0,3)):
        any_setting(m)
    seed=R.choice([100,100,R.randrange(100),R.randrange(100),R.randrange(100)])
    dense=R.random()<.5
    if dense: do(m,'lay',R.randrange(5,8),R.randrange(5,8),seed)
    else: do(m,'lay',weird(R.randrange(5,13)),weird(R.randrange(5,13)),seed)
    if m.n()==0: do(m,'lay',R.randrange(5,9),R.randrange(5,9),seed)
    if R.random()<.35 and seed<100:
        do(m,'muster',R.randrange(100))
        if R.random()<.3: do(m,'stores',R.randrange(2),R.randrange(400),R.randrange(200),R.randrange(20),R.randrange(1,101))
    else:
        for _ in range(R.randrange(0,30)):
            do(m,'ground',rq(m),R.randrange(10) if R.random()<.2 else R.randrange(3),R.choice([0,0,0,1,2,3]),R.randrange(8),R.randrange(1,100) if R.random()<.9 else R.choice([0,-1,100]))
        if R.random()<.5: do(m,'camp',rq(m),rq(m))
        if dense:
            for _ in range(25): do(m,'ground',rq(m),R.randrange(5),R.choice([0,0,0,1,2,3]),R.choice([0,1,3,4,5,5,6,7,2,0]),R.randrange(1,100))
        for s in(0,1):
            do(m,'stores',s,R.randrange(400),R.randrange(300) ,R.randrange(20),R.randrange(1,101))
        do(m,'town',R.randrange(1000),R.randrange(30),R.randrange(1,8))
        for _ in range(R.randrange(1,17)):
            s=R.randrange(2); do(m,'gun',s,rq(m) if R.random()<.7 else (m.camp_,m.gate)[s],R.randrange(1,4))
        for _ in range(R.randrange(2,13)):
            s=R.randrange(2); do(m,'company',s,rq(m) if R.random()<.7 else (m.camp_,m.gate)[s],R.randrange(1,201) if R.random()<.8 else R.randrange(1,10))
    for _ in range(R.randrange(0,3)): any_setting(m)
    if R.random()<.95: do(m,'begin')
def any_setting(m):
    k=R.randrange(10)
    if k==0: do(m,'lay',weird(R.randrange(4,14)),weird(R.randrange(4,14)),weird(R.randrange(-1,102)))
    elif k==1: do(m,'ground',rq(m),weird(R.randrange(-1,11)),weird(R.randrange(-1,5)),weird(R.randrange(-1,9)),weird(R.randrange(-1,101)))
    elif k==2: do(m,'camp',rq(m),rq(m))
    elif k==3: do(m,'stores',weird(R.randrange(-1,3)),weird(R.randrange(-1,10001)),weird(R.randrange(-1,10001)),weird(R.randrange(-1,1001)),weird(R.randrange(-1,102)))
    elif k==4: do(m,'town',weird(R.randrange(-1,2002)),weird(R.randrange(-1,202)),weird(R.randrange(0,42)))
    elif k==5: do(m,'gun',weird(R.randrange(-1,3)),rq(m),weird(R.randrange(0,5)))
    elif k==6: do(m,'company',weird(R.randrange(-1,3)),rq(m),weird(R.randrange(0,202)))
    elif k==7: do(m,'muster',weird(R.randrange(-1,101)))
    elif k==8: do(m,'begin')
    else: ask(m)
def rc(m): return weird(R.randrange(-1 if R.random()<.05 else 0,len(m.comps)+(R.random()<.05) or 1))
def rg(m): return weird(R.randrange(-1 if R.random()<.05 else 0,len(m.guns)+(R.random()<.05) or 1))
def rm(m): return weird(R.randrange(-1 if R.random()<.05 else 0,len(m.mines)+(R.random()<.05) or 1))
def ask(m):
    k=R.randrange(16)
    if k==0: do(m,'ofSquare',rq(m),weird(R.randrange(10)))
    elif k==1: do(m,'sees',rq(m),rq(m))
    elif k==2: do(m,'underFire',rq(m),weird(R.randrange(2)),weird(R.randrange(2)))
    elif k==3: do(m,'ofGun',rg(m),weird(R.randrange(8)))
    elif k==4: do(m,'ofCompany',rc(m),weird(R.randrange(7)))
    elif k==5: do(m,'ofMine',rm(m),weird(R.randrange(9)))
    elif k==6: do(m,'ofSide',weird(R.randrange(2)),weird(R.randrange(13)))
    elif k==7: do(m,'ofSiege',weird(R.randrange(13)))
    elif k==8: do(m,'row',weird(R.randrange(-1,13)))
    elif k==9: do(m,'march',rc(m),rq(m))
    elif k==10:
        c=rc(m); do(m,'storm',c,near(m,m.comps[c]['sq']) if 0<=c<len(m.comps) else rq(m))
    elif k==11: do(m,'sap',rc(m))
    elif k==12: do(m,'target',rg(m))
    elif k==13: do(m,'forecast',weird(R.randrange(1,49)),weird(R.randrange(5)))
    elif k==14: do(m,'isSound')
    else: do(m,'digest')
def act(m):
    k=R.random()
    if k<.30:
        c=rc(m); sq=m.comps[c]['sq'] if 0<=c<len(m.comps) else 0
        o=R.choice([0,1,1,1,2,2,3,4,4,5,5,5,6,6]) if R.random()<.97 else R.choice([-1,7,99])
        if 0<=c<len(m.comps):
            if m.comps[c]['side']==1 and o==1 and R.random()<.95: o=6
            elif m.comps[c]['side']==0 and o==6 and R.random()<.95: o=1
            if o==1 and R.random()<.5:
                g=m.sap(c)
                if g<0: g=near(m,sq)
            elif o==6 and R.random()<.3: g=sq
            elif o==4: g=rq(m)
            else: g=near(m,sq)
            foes=[e['sq'] for e in m.comps if e['men']>0 and e['side']!=m.comps[c]['side'] and m.touch(e['sq'],sq)]
            if foes and R.random()<.4: o=5; g=R.choice(foes)
            elif o in(4,5) and R.random()<.5:
                far=[e['sq'] for e in m.comps if e['men']>0 and e['side']!=m.comps[c]['side']]
                if far:
                    f=R.choice(far); t=[q for q in m.touching(f)]; o=4; g=R.choice(t)
        else: g=rq(m)
        do(m,'order',c,o,g)
        if R.random()<.3: do(m,'storm',c,g)
    elif k<.42:
        g=rg(m); q=rq(m)
        if 0<=g<len(m.guns) and R.random()<.7: q=m.target(g)
        do(m,'aim',g,q)
    elif k<.47:
        g=rg(m); do(m,'haul',g,near(m,m.guns[g]['sq']) if 0<=g<len(m.guns) else rq(m))
    elif k<.51: do(m,'right',rg(m))
    elif k<.56:
        l=[i for i,c in enumerate(m.comps) if c['men']>0 and m.w(c['sq']) in ((5,),(1,3,4))[c['side']]]
        do(m,'mine',R.choice(l) if l and R.random()<.9 else rc(m),weird(R.randrange(4)))
    elif k<.60:
        l=[i for i,x in enumerate(m.mines) if x['state']<2]
        do(m,'charge',R.choice(l) if l and R.random()<.9 else rm(m),weird(R.choice([1,2,3,4,5,7,8,20,24,30,60])))
    elif k<.62:
        l=[i for i,x in enumerate(m.mines) if x['charge'] and x['state']<2]
        i=R.choice(l) if l and R.random()<.9 else rm(m)
        do(m,'ofMine',i,8); do(m,'blow',i)
    elif k<.65: do(m,'letter')
    elif k<.66: do(m,'expel',weird(R.randrange(-1,60)))
    elif k<.67 : do(m,'parley')
    elif k<.70: any_setting(m)
    elif k<.85: do(m,'pass',weird(R.choice([1,1,1,1,1,2,2,3,4,6,8,12,24,48])))
    else: ask(m)
out=[]
for r in range(runs):
    m=M(); cmds.clear(); want.clear()
    setup(m)
    c0=len(cmds); over=0
    while len(cmds)-c0<calls and len(cmds)<510:
        act(m)
        if R.random()<DIGESTS: do(m,'digest')
        if m.phase==2:
            over+=1
            if over>12: break
    out.append('new'); out+=[a+' -> '+b for a,b in zip(cmds,want)]
open(sys.argv[4],'w').write('\n'.join(out)+'\n')
