import copy
NONE=-1
class Ix(Exception): pass
class Ar(Exception): pass
class St(Exception): pass
NAMES={Ix:'IndexOutOfBoundsException',Ar:'IllegalArgumentException',St:'IllegalStateException'}
def wrap(v):
    v&=(1<<64)-1
    return v-(1<<64) if v>>63 else v
class Row:
    def __init__(s,seed): s.v=None; s.seed=seed
    def next(s):
        s.v=(31*s.seed+17)%97 if s.v is None else (31*s.v+17)%97
        return s.v
class M:
    def __init__(m):
        m.W=m.H=0; m.reset()
        m.phase=0
    def reset(m):
        m.clock=0
        m.sq=[]  # dict h,s,w,f,t
        m.camp_=m.gate=None
        m.side=[dict(pow=0,food=0,gab=0,mor=60,hun=0,shots=0,spent=0,loss=0,won=0,sick=0,base=0) for _ in (0,1)]
        m.people=m.supply=0; m.days=10
        m.guns=[];m.comps=[];m.mines=[]
        m.letters=[]; m.thru=0; m.setout=False; m.there=False
        m.hon=NONE; m.falls=0; m.fires=0
    # geometry
    def n(m): return m.W*m.H
    def ok(m,q): return 0<=q<m.n()
    def cr(m,q): return q%m.W,q//m.W
    def far(m,a,b):
        (c,r),(d,e)=m.cr(a),m.cr(b); return max(abs(c-d),abs(r-e))
    def touch(m,a,b):
        (c,r),(d,e)=m.cr(a),m.cr(b); return abs(c-d)+abs(r-e)==1
    def touching(m,a): return [b for b in range(m.n()) if m.touch(a,b)]
    def w(m,q): return m.sq[q]['w']
    def belongs(m,q):
        if m.w(q) in (1,3,4) or q==m.gate: return 1
        if m.w(q)==5 or q==m.camp_: return 0
        return NONE
    def night(m): return m.clock%24 in (20,21,22,23,0,1,2,3,4)
    def top(m,q): return 2*m.sq[q]['h']+{0:0,1:6,2:-4,3:4,4:2,5:0,6:2,7:-2}[m.w(q)]
    def eye(m,q): return m.top(q)+2
    def body(m,q): return m.top(q)-2 if m.w(q)==5 else m.top(q)+1
    def at(m,a,b,k):
        n=m.far(a,b); (c,r),(d,e)=m.cr(a),m.cr(b)
        x=c+(2*k*(d-c)+n)//(2*n); y=r+(2*k*(e-r)+n)//(2*n)
        if 0<=x<m.W and 0<=y<m.H: return y*m.W+x
        return None
    def see(m,a,b):
        n=m.far(a,b)
        if n>(4 if m.night() else 9): return False
        for k in range(1,n):
            q=m.at(a,b,k)
            if m.top(q)*n>m.eye(a)*(n-k)+m.body(b)*k: return False
        return True
    def raked(m,a,b):
        if a==b or m.w(b)!=5 or not m.see(a,b): return False
        q=m.at(a,b,m.far(a,b)+1)
        return q is not None and m.w(q)==5
    def comps_at(m,s,q): return [c for c in m.comps if c['men']>0 and c['side']==s and c['sq']==q]
    def held(m,s,q): return bool(m.comps_at(s,q))
    def mor(m,s,d): m.side[s]['mor']=max(0,min(100,m.side[s]['mor']+d))
    # setting
    def lay(m,w,h,seed):
        if not(5<=w<=12 and 5<=h<=12 and 0<=seed<=100): raise Ar
        if m.phase!=0: raise St
        m.reset(); m.W,m.H=w,h
        m.sq=[dict(h=0,s=0,w=0,f=0,t=0) for _ in range(w*h)]
        m.camp_=0; m.gate=w*h-1
        if seed<100:
            r=Row(seed)
            for q in m.sq:
                q['h']=r.next()%3
                d=r.next()%10
                q['s']=0 if d<6 else 1 if d<8 else 2 if d==8 else 3
            for i,q in enumerate(m.sq):
                c,rr=m.cr(i)
                if 4<=c<=8 and 4<=rr<=8:
                    if c in(4,8) or rr in(4,8): q['w']=1;q['f']=40;q['h']=4
                    else: q['w']=3;q['h']=3
            for i,q in enumerate(m.sq):
                if q['w']==0 and any(m.w(b)==1 for b in m.touching(i)): q['w']=2;q['h']=0
            if w>=7 and h>=7: m.gate=6*w+6
            else: m.sq[m.gate]['w']=0; m.sq[m.gate]['f']=0
        return sum(q['w']==1 for q in m.sq)
    def ground(m,q,h,s,w,f):
        if not m.ok(q): raise Ix
        if not 0<=h<=9 or not 0<=s<=3 or not 0<=w<=7: raise Ar
        if w==1 and not 1<=f<=99: raise Ar
        if q==m.camp_ and w!=0: raise Ar
        if q==m.gate and w in(1,2,5,6,7): raise Ar
        if m.phase!=0 or any(g['sq']==q for g in m.guns) or any(c['sq']==q for c in m.comps): raise St
        m.sq[q]=dict(h=h,s=s,w=w,f=f if w==1 else 0,t=0)
        return sum(x['w']==w for x in m.sq)
    def camp(m,c,g):
        if not m.ok(c) or not m.ok(g): raise Ix
        if c==g or m.w(c)!=0 or m.w(g) in (1,2,5,6,7): raise Ar
        if m.phase!=0 or m.guns or m.comps: raise St
        m.camp_,m.gate=c,g
        return m.far(c,g)
    def stores(m,s,p,f,g,mo):
        if s not in(0,1) or not 0<=p<=9999 or not 0<=f<=9999 or not 0<=g<=999 or not 1<=mo<=100: raise Ar
        if m.phase: raise St
        m.side[s].update(pow=p,food=f,gab=g,mor=mo); return p+f
    def town(m,p,s,d):
        if not 0<=p<=2000 or not 0<=s<=200 or not 1<=d<=40: raise Ar
        if m.phase: raise St
        m.people,m.supply,m.days=p,s,d; return p//20
    def gun(m,s,q,c):
        if not m.ok(q): raise Ix
        if s not in(0,1) or not 1<=c<=3 or m.belongs(q)==1-s or m.w(q) in(2,6,7): raise Ar
        if m.phase or len(m.guns)>=16: raise St
        m.guns.append(dict(side=s,sq=q,cal=c,heat=0,hits=0,state=0,aim=NONE)); return len(m.guns)-1
    def company(m,s,q,n):
        if not m.ok(q): raise Ix
        if s not in(0,1) or not 1<=n<=200 or m.belongs(q)==1-s: raise Ar
        if m.phase or len(m.comps)>=12: raise St
        m.comps.append(dict(side=s,sq=q,men=n,tired=0,order=0,goal=NONE)); return len(m.comps)-1
    def muster(m,seed):
        if not 0<=seed<=99: raise Ar
        if m.phase or not m.sq or m.comps or m.guns: raise St
        r=Row(seed)
        for s in(0,1):
            d=m.side[s]; d['pow']=100+r.next(); d['food']=40+r.next(); d['gab']=10+r.next()%10
            home=m.camp_ if s==0 else m.gate
            for _ in range(4): m.comps.append(dict(side=s,sq=home,men=60+r.next(),tired=0,order=0,goal=NONE))
            for _ in range(3): m.guns.append(dict(side=s,sq=home,cal=1+r.next()%3,heat=0,hits=0,state=0,aim=NONE))
        m.people=200+r.next(); m.supply=5+r.next()%10; m.days=4+r.next()%8
        return m.men(0)-m.men(1)
    def men(m,s): return sum(c['men'] for c in m.comps if c['side']==s)
    def begin(m):
        if m.phase or any(not any(c['side']==s for c in m.comps) for s in(0,1)): raise St
        m.phase=1
        for s in(0,1): m.side[s]['base']=m.side[s]['pow']
        return len(m.comps)
    # orders
    def C(m,i):
        if not 0<=i<len(m.comps): raise Ix
        return m.comps[i]
    def G(m,i):
        if not 0<=i<len(m.guns): raise Ix
        return m.guns[i]
    def X(m,i):
        if not 0<=i<len(m.mines): raise Ix
        return m.mines[i]
    def on(m):
        if m.phase!=1: raise St
    def order(m,i,o,g):
        c=m.C(i)
        if o in(1,4,5,6) and not m.ok(g): raise Ix
        if not 0<=o<=6 or (o==1 and c['side']==1) or (o==6 and c['side']==0): raise Ar
        m.on()
        if c['men']==0: raise St
        b=c['order']; c['order']=o; c['goal']=g if o in(1,4,5,6) else NONE
        return b
    def aim(m,i,q):
        g=m.G(i)
        if q!=NONE and not m.ok(q): raise Ix
        m.on(); b=g['aim']; g['aim']=q; return b
    def fresh(m,s,q):
        for c in m.comps:
            if c['side']==s and c['sq']==q and c['men']>0 and c['tired']<8: return c
        raise St
    def haul(m,i,q):
        g=m.G(i)
        if not m.ok(q): raise Ix
        m.on()
        if not m.touch(g['sq'],q) or m.w(q) in(2,6,7): raise St
        c=m.fresh(g['side'],q); c['tired']+=2; g['sq']=q; g['aim']=NONE; return c['tired']
    def right(m,i):
        g=m.G(i); m.on()
        if g['state']==0: raise St
        c=m.fresh(g['side'],g['sq']); c['tired']+=4; g.update(state=0,hits=0,heat=0); return c['tired']
    def mine(m,i,d):
        c=m.C(i)
        if not 0<=d<=3: raise Ar
        m.on()
        if c['men']==0 or m.w(c['sq']) not in ((5,),(1,3,4))[c['side']] or len(m.mines)>=6: raise St
        m.mines.append(dict(side=c['side'],sqs=[c['sq']],dir=d,charge=0,toil=0,state=0)); return len(m.mines)-1
    def charge(m,i,b):
        x=m.X(i)
        if not 1<=b<=60: raise Ar
        m.on()
        if x['state']>1 or m.side[x['side']]['pow']<b: raise St
        m.side[x['side']]['pow']-=b; x['charge']+=b; return x['charge']
    def lose(m,c,n):
        n=min(n,c['men']); c['men']-=n; m.side[c['side']]['loss']+=n; return n
    def wallhit(m,q,n):
        z=m.sq[q]
        if z['w']!=1: return
        z['f']-=n
        if z['f']<=0:
            z['f']=0; z['w']=6; z['h']=max(0,z['h']-1); m.falls+=1; m.mor(1,-8)
    def blow(m,i):
        x=m.X(i); m.on()
        if x['state']>1 or x['charge']==0: raise St
        ch=x['charge']; head=x['sqs'][-1]; s=x['side']
        reach=0 if ch<8 else 1 if ch<24 else 2
        if m.sq[head]['h']>=3: reach=max(0,reach-1)
        x['state']=2; m.side[s]['spent']+=ch
        cam=ch<=4
        R=1 if cam else reach
        for y in m.mines:
            if y['side']!=s and y['state']<=1 and any(m.far(q,head)<=R for q in y['sqs']):
                y['state']=3; m.side[1-s]['spent']+=y['charge']
                if s==1: m.mor(0,-3)
        lost=0
        if not cam:
            for q in range(m.n()):
                if m.far(q,head)>reach: continue
                for c in m.comps:
                    if c['sq']==q: lost+=m.lose(c,c['men']//3)
                for g in m.guns:
                    if g['sq']==q and g['state']==0: g['state']=1
                w=m.w(q)
                if w==1: m.wallhit(q,30)
                elif q==head and w not in(6,3,2) and q not in(m.camp_,m.gate):
                    m.sq[q]['w']=7; m.sq[q]['h']=max(0,m.sq[q]['h']-1)
        m.ask(); return lost
    def letter(m):
        m.on()
        if not m.night() or len(m.letters)>=6: raise St
        m.letters.append([0,0]); return len(m.letters)
    def expel(m,p):
        if p<1 or p>m.people: raise Ar
        m.on(); m.people-=p; m.mor(1,-5); return m.people
    def parley(m):
        m.on(); d=m.depth()
        v=20*d+(100-m.side[1]['mor'])+min(30,10*m.side[1]['hun'])
        if m.there: v-=40
        elif m.thru: v-=20
        if v>=120:
            m.phase=2; m.hon={0:3,1:3,2:3,3:2,4:1,5:0}[d]; return 1
        return 0
    def depth(m):
        d=0; n=range(m.n())
        tr=[q for q in n if m.w(q)==5]; br=[q for q in n if m.w(q)==6]
        s0=[c['sq'] for c in m.comps if c['side']==0 and c['men']>0]
        if any(m.far(t,q)<=3 for t in tr for q in n if m.w(q) in(1,6)): d=1
        if any(m.touch(t,q) for t in tr for q in n if m.w(q)==2): d=2
        if br: d=3
        if any(b==q or m.touch(b,q) for b in br for q in s0): d=4
        if any(m.w(q)==3 for q in s0): d=5
        return d
    def ask(m):
        if m.phase!=1: return
        a0=[c for c in m.comps if c['side']==0 and c['men']>0]
        a1=[c for c in m.comps if c['side']==1 and c['men']>0]
        if any(c['sq']==m.gate for c in a0): m.phase=2; m.hon=0; m.people//=2
        elif not a1: m.phase=2; m.hon=0
        elif m.side[0]['mor']==0 or not a0: m.phase=2; m.hon=NONE
    def can_fire(m,g,q):
        return 3<=m.far(g['sq'],q)<=8 if g['cal']==3 else m.see(g['sq'],q)
    def shots(m,g):
        if g['state']!=0 or g['aim']==NONE or not m.can_fire(g,g['aim']): return 0
        return min(4-g['heat'],m.side[g['side']]['pow']//g['cal'])
    def hour(m):
        for g in m.guns:
            n=m.shots(g)
            if n<=0: g['heat']=max(0,g['heat']-1); continue
            s=m.side[g['side']]; s['pow']-=n*g['cal']; s['spent']+=n*g['cal']; s['shots']+=n
            g['heat']=min(3,g['heat']+1)
            q=g['aim']; o=1-g['side']
            m.wallhit(q,n*g['cal'])
            for h in m.guns:
                if h['side']==o and h['sq']==q:
                    h['hits']+=n
                    if h['hits']>=10 and h['state']==0: h['state']=1
            w=m.w(q); mo=g['cal']==3
            if w==5: l=n if mo else n*2 if m.raked(g['sq'],q) else n
            elif w in(1,3,4): l=n if mo else n//2
            else: l=3*n
            for c in m.comps_at(o,q): m.lose(c,l)
            if mo and w==3: m.fires+=n
        m.ask()
        if m.phase==2: return
        for c in m.comps:
            if c['men']>0:
                m.act(c); m.ask()
                if m.phase==2: return
        for x in m.mines:
            if x['state']!=0 or not m.held(x['side'],x['sqs'][0]): continue
            c,r=m.cr(x['sqs'][-1]); dc,dr=[(0,-1),(1,0),(0,1),(-1,0)][x['dir']]
            c+=dc;r+=dr
            if not(0<=c<m.W and 0<=r<m.H) or m.sq[r*m.W+c]['s'] in(2,3) or len(x['sqs'])==6: x['state']=1; continue
            x['toil']+=1
            if x['toil']>={0:4,1:6}[m.sq[r*m.W+c]['s']]: x['sqs'].append(r*m.W+c); x['toil']=0
        if m.clock%24==23:
            m.midnight(); m.ask()
            if m.phase==2: return
        m.clock+=1
    def candig(m,c,q):
        return c['side']==0 and m.touch(c['sq'],q) and m.w(q) not in(1,3,2,5) and q!=m.gate and q!=m.camp_ and not m.held(1,q)
    def canstorm(m,c,q):
        if not m.touch(c['sq'],q): return False
        w=m.w(q)
        if w==1: return False
        if w==2 and m.w(c['sq']) not in(5,7,2): return False
        return True
    def seers(m,s,q): return sum(1 for g in m.guns if g['side']==s and g['state']==0 and m.see(g['sq'],q))
    def way(m,c,goal):
        # returns (len,next)
        if c['sq']==goal: return 0,None
        s=c['side']
        def openq(q):
            return m.belongs(q)!=1-s and not m.held(1-s,q) and (m.w(q) not in(2,7) or q==goal)
        if not openq(goal): return NONE,None
        dist={c['sq']:0}; fr=[c['sq']]; par={}
        # dist from goal backwards
        d={goal:0}; fr=[goal]
        while fr:
            nf=[]
            for q in fr:
                for b in m.touching(q):
                    if b not in d and (openq(b)):
                        d[b]=d[q]+1; nf.append(b)
            fr=nf
        cand=[(d[b],b) for b in m.touching(c['sq']) if b in d]
        if not cand: return NONE,None
        l,b=min(cand); return l+1,b
    def force(m,c): return c['men']*(14-c['tired'])*(m.side[c['side']]['mor']+50)
    def att(m,c):
        f=m.force(c); return f*5//4 if m.night() else f
    def deff(m,s,q):
        d=m.comps_at(s,q); f=sum(m.force(c) for c in d)
        f*={3:3,4:3,6:2,5:2}.get(m.w(q),1)
        if any(c['order']==2 and c['tired']<10 for c in d): f=f*3//2
        return f
    def rest(m,c): c['order']=0;c['goal']=NONE
    def act(m,c):
        o=c['order']
        if c['tired']>=10 or o==0: c['tired']=max(0,c['tired']-2); return
        if o==2: c['tired']=max(0,c['tired']-1); return
        c['tired']=min(12,c['tired']+1)
        g=c['goal']; s=c['side']
        if o==1:
            if not m.candig(c,g): return
            z=m.sq[g]; z['t']+=c['men']//10
            if z['t']>=(20,30,24,60)[z['s']]:
                need=2 if z['s']==2 else 1 if m.seers(1,g) else 0
                if m.side[0]['gab']>=need:
                    m.side[0]['gab']-=need; z['w']=5; z['t']=0; c['sq']=g; m.rest(c)
        elif o==3:
            if c['sq']==m.camp_ or m.w(c['sq'])==3: m.side[s]['gab']+=c['men']//20
        elif o==4:
            l,b=m.way(c,g)
            if l==NONE: return
            if l>0: c['sq']=b
            if c['sq']==g: m.rest(c)
        elif o==6:
            if g!=c['sq'] and not m.touch(g,c['sq']): return
            z=m.sq[g]
            if z['w']==1:
                if z['f']<60: z['f']=min(60,z['f']+c['men']//20)
            elif z['w']==6 and not m.held(0,g):
                z['t']+=c['men']//10
                if z['t']>=80: z.update(w=1,f=10,h=min(9,z['h']+1),t=0)
        elif o==5:
            if not m.canstorm(c,g): return
            d=m.comps_at(1-s,g)
            if d:
                win=m.att(c)>m.deff(1-s,g)
                ws=s if win else 1-s
                m.side[ws]['won']+=1; m.mor(ws,4); m.mor(1-ws,-4)
                if win:
                    ref=[q for q in range(m.n()) if m.touch(q,g) and m.belongs(q)==1-s and not m.held(s,q)]
                    for e in d:
                        m.lose(e,max(1,e['men']//4))
                        if e['men']==0: continue
                        if ref: e['sq']=ref[0]
                        else:
                            m.lose(e,e['men']//2); e['sq']=m.gate if e['side']==1 else m.camp_
                        m.rest(e)
                    m.lose(c,c['men']//8)
                else:
                    for e in d: m.lose(e,e['men']//8)
                    m.lose(c,max(1,c['men']//4)); m.rest(c)
                    return
            c['sq']=g; m.rest(c)
            for h in m.guns:
                if h['side']==1-s and h['sq']==g and h['state']==0: h['state']=2
            if m.w(g)==5 and s==1:
                m.sq[g]['w']=0; m.side[0]['gab']-=m.side[0]['gab']//2
    def midnight(m):
        for s in(0,1):
            d=m.side[s]; e=m.men(s)//10+(m.people//20 if s else 0)
            if d['food']>=e: d['food']-=e; d['hun']=0
            else: d['food']=0; d['hun']+=1; m.mor(s,-6)
            for c in m.comps:
                if c['side']!=s: continue
                k=1+(d['hun']>0)+((m.sq[c['sq']]['s']==2) if s==0 else (m.fires>20))
                n=c['men']//50*k; c['men']-=n; d['sick']+=n
            if d['mor']<40:
                for c in m.comps:
                    if c['side']==s: m.lose(c,c['men']*(40-d['mor'])//400)
            if s==0 and not m.there:
                d['pow']+=m.supply; d['base']+=m.supply; d['food']+=m.supply
            if s==1: m.mor(1,-sum(z['w']==6 for z in m.sq))
        m.fires//=2
        gd=sum(1 for c in m.comps if c['side']==0 and c['men']>0 and c['order']==2 and c['tired']<10)
        was=m.setout
        for l in m.letters:
            if l[1]: continue
            l[0]+=1
            if gd<l[0]:
                l[1]=1; m.thru+=1
                if m.setout: m.days=max(0,m.days-1)
                m.setout=True
            elif l[0]>=4: l[1]=2
        if was and not m.there: m.days=max(0,m.days-1)
        if m.setout and m.days==0 and not m.there:
            m.there=True; m.mor(1,20); m.mor(0,-15)
    def pass_(m,h):
        if not 1<=h<=48: raise Ar
        m.on()
        if m.clock+h>2400: raise St
        for _ in range(h):
            if m.phase==1: m.hour()
        return m.clock
    # asked
    def ofSquare(m,q,w):
        if not m.ok(q): raise Ix
        if not 0<=w<=9: raise Ar
        z=m.sq[q]
        return [z['h'],z['s'],z['w'],z['f'] if z['w']==1 else 0,z['t'],m.top(q),m.body(q),m.belongs(q),sum(c['men'] for c in m.comps_at(0,q)),sum(c['men'] for c in m.comps_at(1,q))][w]
    def sees(m,a,b):
        if not m.ok(a) or not m.ok(b): raise Ix
        return int(m.see(a,b))
    def underFire(m,q,s,w):
        if not m.ok(q): raise Ix
        if s not in(0,1) or w not in(0,1): raise Ar
        if w==0: return m.seers(s,q)
        return len({g['sq'] for g in m.guns if g['side']==s and g['state']==0 and m.raked(g['sq'],q)})
    def ofGun(m,i,w):
        g=m.G(i)
        if not 0<=w<=7: raise Ar
        return m.shots(g) if w==7 else [g['side'],g['sq'],g['cal'],g['heat'],g['hits'],g['state'],g['aim']][w]
    def ofCompany(m,i,w):
        c=m.C(i)
        if not 0<=w<=6: raise Ar
        return [c['side'],c['sq'],c['men'],c['tired'],c['order'],c['goal'],m.force(c)//100][w]
    def ofMine(m,i,w):
        x=m.X(i)
        if not 0<=w<=8: raise Ar
        o=1-x['side']; hd=x['sqs'][-1]
        heard=int(x['state']==0 and len(x['sqs'])>1 and (any(c['side']==o and c['men']>0 and c['order'] not in(0,4) and m.far(c['sq'],hd)<=2 for c in m.comps) or any(y['side']==o and y['state']<=1 and m.far(y['sqs'][-1],hd)<=2 for y in m.mines)))
        return [x['side'],x['sqs'][0],hd,x['dir'],x['charge'],x['toil'],x['state'],len(x['sqs']),heard][w]
    def ofSide(m,s,w):
        if s not in(0,1) or not 0<=w<=12: raise Ar
        d=m.side[s]
        return [d['pow'],d['food'],d['gab'],d['mor'],d['hun'],m.men(s),sum(c['side']==s and c['men']>0 for c in m.comps),d['shots'],d['spent'],d['loss'],d['won'],d['sick'],sum(g['side']==s and g['state']==0 for g in m.guns)][w]
    def ofSiege(m,w):
        if not 0<=w<=12: raise Ar
        return [m.clock,m.phase,m.hon,m.depth(),m.falls,m.people,m.fires,m.thru,m.days,int(m.there),sum(z['w']==6 for z in m.sq),sum(z['w']==5 for z in m.sq),len(m.mines)][w]
    def row(m,r):
        if not 0<=r<m.H: raise Ix
        s=''
        for q in range(r*m.W,(r+1)*m.W):
            a,b=m.held(0,q),m.held(1,q)
            s+='*' if a and b else 'o' if a else 'x' if b else '.#~Tc=/u'[m.w(q)]
        return s
    def march(m,i,q):
        c=m.C(i)
        if not m.ok(q): raise Ix
        return NONE if c['men']==0 else m.way(c,q)[0]
    def storm(m,i,q):
        c=m.C(i)
        if not m.ok(q): raise Ix
        if c['men']==0 or not m.canstorm(c,q): return NONE
        return m.att(c)-m.deff(1-c['side'],q)
    def sap(m,i):
        c=m.C(i)
        if c['men']==0 or c['side']==1: return NONE
        l=[(m.seers(1,q),m.far(q,m.gate),q) for q in range(m.n()) if m.candig(c,q)]
        return min(l)[2] if l else NONE
    def target(m,i):
        g=m.G(i)
        if g['state']!=0: return NONE
        best=(0,NONE)
        for q in range(m.n()):
            if not m.can_fire(g,q): continue
            o=1-g['side']
            p=(g['cal']*10 if g['side']==0 and m.w(q)==1 else 0)+20*sum(h['side']==o and h['sq']==q and h['state']==0 for h in m.guns)+sum(c['men'] for c in m.comps_at(o,q))//10
            if p>best[0]: best=(p,q)
        return best[1]
    def forecast(m,h,w):
        if not 1<=h<=48 or not 0<=w<=4: raise Ar
        m.on()
        t=copy.deepcopy(m)
        for _ in range(h):
            if t.phase==1: t.hour()
        return [t.clock if t.phase==2 else NONE,t.hon if t.phase==2 else NONE,t.men(0),t.men(1),t.falls][w]
    def isSound(m):
        for s in(0,1):
            d=m.side[s]
            if min(d['pow'],d['food'],d['gab'])<0: return 0
            if m.phase and d['base']!=d['pow']+d['spent']+sum(x['charge'] for x in m.mines if x['side']==s and x['state']<=1): return 0
        if any(not 0<=c['men']<=200 for c in m.comps): return 0
        for q in (m.camp_,m.gate):
            if q is not None and m.w(q) in(1,2,5,6,7): return 0
        return int(all(z['f']>0 for z in m.sq if z['w']==1))
    def digest(m):
        d=58263; v=[m.ofSiege(i) for i in range(13)]
        for s in(0,1): v+=[m.ofSide(s,i) for i in range(13)]
        for q in range(m.n()): v+=[m.ofSquare(q,i) for i in(2,3,4,5)]
        for g in range(len(m.guns)): v+=[m.ofGun(g,i) for i in(1,3,4,5,6,7)]
        for c in range(len(m.comps)): v+=[m.ofCompany(c,i) for i in range(1,7)]
        for x in range(len(m.mines)): v+=[m.ofMine(x,i) for i in(2,4,5,6,7,8)]
        v.append(m.isSound())
        for z in v: d=wrap(d*31+z)
        return d
    def call(m,name,args):
        try:
            return str(getattr(m,'pass_' if name=='pass' else name)(*args))
        except (Ix,Ar,St) as e: return NAMES[type(e)]
