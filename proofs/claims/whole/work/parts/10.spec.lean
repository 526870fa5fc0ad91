/-! what packing and unpacking are, in integers -/
/-- the writer of bits: chances, digits, how many digits, range -/
abbrev En : Type := (Int → Int) × (Int → Int) × Int × Int
def raiseZ : Nat → Int → (Int → Int) → (Int → Int)
  | 0, _, g => g
  | i + 1, c, g => if 0 < c then raiseZ i ((c + g i) / 256) (zup g i ((c + g i) % 256)) else g
def learnZ (p bit : Int) : Int := if bit = 0 then p + (2048 - p) / 32 else p - p / 32
def shiftZ (r : Int) : Int := if r < 16777216 then r * 256 else r
def moreZ (r : Int) : Int := if r < 16777216 then 1 else 0
def eBit (e : En) (a bit : Int) : En :=
  (zup e.1 a (learnZ (e.1 a) bit),
   (if bit = 0 then e.2.1 else if 200 < e.2.2.1 then e.2.1 else raiseZ e.2.2.1.toNat (e.2.2.2 / 2048 * e.1 a) e.2.1),
   e.2.2.1 + moreZ (if bit = 0 then e.2.2.2 / 2048 * e.1 a else e.2.2.2 - e.2.2.2 / 2048 * e.1 a),
   shiftZ (if bit = 0 then e.2.2.2 / 2048 * e.1 a else e.2.2.2 - e.2.2.2 / 2048 * e.1 a))
def bitZ (v : Int) (k : Nat) : Int := v / 2 ^ k % 2
def eTree : Nat → Int → Int → Int → En → En
  | 0, _, _, _, e => e
  | k + 1, a, v, m, e => eTree k a v (2 * m + bitZ v k) (eBit e (a + m) (bitZ v k))
def eRow : Nat → Nat → Int → Int → Int → En → En
  | 0, _, _, _, _, e => e
  | r + 1, k, a, v, m, e => eRow r (k + 1) a v (2 * m + bitZ v k) (eBit e (a + m) (bitZ v k))
def treeZ (as lb : Int) : Int := if as = 0 then 0 else 1 + lb
def sameZ (as b lb : Int) : Int := if as = 0 then 0 else if b = lb then 1 else 0
def eLit : Nat → Int → Int → Int → Int → Int → En → En
  | 0, _, _, _, _, _, e => e
  | k + 1, pl, ly, b, m, as, e => eLit k pl ly b (2 * m + bitZ b k) (sameZ as (bitZ b k) (bitZ ly k)) (eBit e (pl + treeZ as (bitZ ly k) * 256 + m) (bitZ b k))
def eLen (pl v : Int) (e : En) : En :=
  if v < 8 then eTree 3 (pl + 2) v 1 (eBit e pl 0)
  else if v < 16 then eTree 3 (pl + 10) (v - 8) 1 (eBit (eBit e pl 1) (pl + 1) 0)
  else eTree 7 (pl + 18) (v - 16) 1 (eBit (eBit e pl 1) (pl + 1) 1)
def hbZ (d : Int) : Nat := if d < 2 then 0 else if d < 4 then 1 else if d < 8 then 2 else if d < 16 then 3 else if d < 32 then 4 else if d < 64 then 5 else if d < 128 then 6 else 7
def slotZ (d : Int) : Int := if d < 4 then d else 2 * (hbZ d : Int) + bitZ d (hbZ d - 1)
def eMatch (ln ds : Int) (e : En) : En :=
  if slotZ (ds - 1) < 4 then eTree 4 (364 + min (ln - 2) 3 * 16) (slotZ (ds - 1)) 1 (eLen 72 (ln - 2) e)
  else eRow (hbZ (ds - 1) - 1) 0 (428 + (slotZ (ds - 1) - 4) * 32) (ds - 1) 1 (eTree 4 (364 + min (ln - 2) 3 * 16) (slotZ (ds - 1)) 1 (eLen 72 (ln - 2) e))
def eEnd (e : En) : En := eTree 4 364 15 1 (eLen 72 0 e)
/-- echo k (a short: k = -1) -/
def eEcho (s k : Int) (e : En) : En :=
  if k = -1 then eBit (eBit e (24 + s) 0) (36 + s) 0
  else if k = 0 then eBit (eBit e (24 + s) 0) (36 + s) 1
  else if k = 1 then eBit (eBit e (24 + s) 1) (48 + s) 0
  else eBit (eBit (eBit e (24 + s) 1) (48 + s) 1) (60 + s) (k - 2)
/-- what has been told: bytes, how many, the last distances, the state -/
abbrev Hs : Type := (Int → Int) × Int × (Int → Int) × Int
def hBefore (t : Hs) (d : Int) : Int := if 1 ≤ d ∧ d ≤ t.2.1 then t.1 (t.2.1 - d) else 0
def hPlace (t : Hs) : Int := 748 + hBefore t 1 / 64 * 768
def hAs (t : Hs) : Int := if t.2.2.2 < 7 then 0 else 1
/-- a packet: kind, length, distance, echo, literal -/
abbrev Pk : Type := Int × Int × Int × Int × Int
def ePkt (t : Hs) (q : Pk) (e : En) : En :=
  if q.1 = 0 then eLit 8 (hPlace t) (hBefore t (t.2.2.1 0)) q.2.2.2.2 1 (hAs t) (eBit e t.2.2.2 0)
  else if q.1 = 1 then eMatch q.2.1 q.2.2.1 (eBit (eBit e t.2.2.2 1) (12 + t.2.2.2) 0)
  else if q.1 = 2 then eLen 218 (q.2.1 - 2) (eEcho t.2.2.2 q.2.2.2.1 (eBit (eBit e t.2.2.2 1) (12 + t.2.2.2) 1))
  else if q.1 = 3 then eEcho t.2.2.2 (-1) (eBit (eBit e t.2.2.2 1) (12 + t.2.2.2) 1)
  else eEnd (eBit (eBit e t.2.2.2 1) (12 + t.2.2.2) 0)
def stLit (s : Int) : Int := if s < 4 then 0 else if s < 10 then s - 3 else s - 6
def stCopy (k s : Int) : Int := if k = 1 then (if s < 7 then 7 else 10) else if k = 2 then (if s < 7 then 8 else 11) else (if s < 7 then 9 else 11)
/-- n bytes more, each the one d places before it -/
def hRep : Nat → Int → (Int → Int) → Int → (Int → Int)
  | 0, _, b, _ => b
  | k + 1, d, b, n => hRep k d (zup b n (b (n - d))) (n + 1)
def hFront : Nat → (Int → Int) → (Int → Int)
  | 0, b => b
  | k + 1, b => hFront k (zup b (k + 1) (b k))
def hTell (t : Hs) (q : Pk) : Hs :=
  if q.1 = 0 then (zup t.1 t.2.1 q.2.2.2.2, t.2.1 + 1, t.2.2.1, stLit t.2.2.2)
  else (hRep q.2.1.toNat q.2.2.1 t.1 t.2.1, t.2.1 + q.2.1,
    (if q.1 = 1 then zup (hFront 3 t.2.2.1) 0 q.2.2.1 else if q.1 = 2 then zup (hFront q.2.2.2.1.toNat t.2.2.1) 0 q.2.2.1 else t.2.2.1), stCopy q.1 t.2.2.2)
/-- how many bytes of the source (n of them) agree from j and from i on -/
def agreeZ (src : Int → Int) (n j i : Int) : Nat → Int → Int
  | 0, k => k
  | r + 1, k => if i + k < n ∧ src (j + k) = src (i + k) then agreeZ src n j i r (k + 1) else k
def agZ (src : Int → Int) (n j i : Int) : Int := if j < 0 ∨ i ≤ j then 0 else agreeZ src n j i (n - i).toNat 0
/-- the match: tried, length, distance; j counts down -/
def matchZ (src : Int → Int) (n i c : Int) : Nat → Int × Int × Int → Int × Int
  | 0, (_, ln, ds) => (ln, ds)
  | j + 1, (tr, ln, ds) =>
    if tr < c then
      (if 2 ≤ agZ src n j i then (if ln < agZ src n j i then matchZ src n i c j (tr + 1, agZ src n j i, i - j) else matchZ src n i c j (tr + 1, ln, ds))
       else matchZ src n i c j (tr, ln, ds))
    else (ln, ds)
/-- the echo: length, which; r more, from k on -/
def echoZ (src : Int → Int) (n i : Int) (bk : Int → Int) : Nat → Int → Int × Int → Int × Int
  | 0, _, x => x
  | r + 1, k, (ln, ec) => if ln < agZ src n (i - bk k) i then echoZ src n i bk r (k + 1) (agZ src n (i - bk k) i, k) else echoZ src n i bk r (k + 1) (ln, ec)
def chooseZ (c : Int) (src : Int → Int) (n : Int) (t : Hs) : Pk :=
  let i := t.2.1
  let mt := matchZ src n i c i.toNat (0, 0, 0)
  let ec := echoZ src n i t.2.2.1 4 0 (0, 0)
  if 2 ≤ ec.1 ∧ mt.1 ≤ ec.1 then (2, ec.1, t.2.2.1 ec.2, ec.2, 0)
  else if 2 ≤ mt.1 then (1, mt.1, mt.2, 0, 0)
  else if 0 < agZ src n (i - t.2.2.1 0) i then (3, 1, t.2.2.1 0, 0, 0)
  else (0, 1, 0, 0, src i)
/-- a packing under way: writer, history, packets (kinds, lengths, values), how many -/
abbrev Pw : Type := En × Hs × ((Int → Int) × (Int → Int) × (Int → Int)) × Int
def pkVal (q : Pk) : Int := if q.1 = 0 then q.2.2.2.2 else q.2.2.1
def packStep (c : Int) (src : Int → Int) (n : Int) (w : Pw) : Pw :=
  let q := chooseZ c src n w.2.1
  (ePkt w.2.1 q w.1, hTell w.2.1 q, (zup w.2.2.1.1 w.2.2.2 q.1, zup w.2.2.1.2.1 w.2.2.2 q.2.1, zup w.2.2.1.2.2 w.2.2.2 (pkVal q)), w.2.2.2 + 1)
def packLoop (c : Int) (src : Int → Int) (n : Int) : Nat → Pw → Pw
  | 0, w => w
  | r + 1, w => if w.2.1.2.1 < n then packLoop c src n r (packStep c src n w) else w
/-- the reader of bits: chances, range, code, next byte; or what was met (1 a byte is missing, 2, 3, 4) -/
abbrev De : Type := (Int → Int) × Int × Int × Int
abbrev Rs : Type := Int ⊕ De
def bdZ (d : De) (a : Int) : Int := d.2.1 / 2048 * d.1 a
def rbZ (d : De) (a : Int) : Int := if d.2.2.1 < bdZ d a then 0 else 1
def rrZ (d : De) (a : Int) : Int := if d.2.2.1 < bdZ d a then bdZ d a else d.2.1 - bdZ d a
def rcZ (d : De) (a : Int) : Int := if d.2.2.1 < bdZ d a then d.2.2.1 else d.2.2.1 - bdZ d a
def rNext (pk : Int → Int) (sz : Int) (d : De) (a : Int) : Rs :=
  if rrZ d a < 16777216 then
    (if d.2.2.2 < sz then .inr (zup d.1 a (learnZ (d.1 a) (rbZ d a)), rrZ d a * 256, rcZ d a * 256 + pk d.2.2.2, d.2.2.2 + 1) else .inl 1)
  else .inr (zup d.1 a (learnZ (d.1 a) (rbZ d a)), rrZ d a, rcZ d a, d.2.2.2)
def rBit (pk : Int → Int) (sz : Int) (a : Int) : Rs → Int × Rs
  | .inl b => (0, .inl b)
  | .inr d => (rbZ d a, rNext pk sz d a)
def rTree (pk : Int → Int) (sz : Int) : Nat → Int → Int → Rs → Int × Rs
  | 0, _, m, x => (m, x)
  | k + 1, a, m, x => rTree pk sz k a (2 * m + (rBit pk sz (a + m) x).1) (rBit pk sz (a + m) x).2
def rRow (pk : Int → Int) (sz : Int) : Nat → Nat → Int → Int → Int → Rs → Int × Rs
  | 0, _, _, _, v, x => (v, x)
  | r + 1, k, a, m, v, x => rRow pk sz r (k + 1) a (2 * m + (rBit pk sz (a + m) x).1) (v + (rBit pk sz (a + m) x).1 * 2 ^ k) (rBit pk sz (a + m) x).2
def rLit (pk : Int → Int) (sz : Int) : Nat → Int → Int → Int → Int → Rs → Int × Rs
  | 0, _, _, m, _, x => (m, x)
  | k + 1, pl, ly, m, as, x =>
    rLit pk sz k pl ly (2 * m + (rBit pk sz (pl + treeZ as (bitZ ly k) * 256 + m) x).1) (sameZ as (rBit pk sz (pl + treeZ as (bitZ ly k) * 256 + m) x).1 (bitZ ly k)) (rBit pk sz (pl + treeZ as (bitZ ly k) * 256 + m) x).2
def rLen (pk : Int → Int) (sz : Int) (pl : Int) (x : Rs) : Int × Rs :=
  if (rBit pk sz pl x).1 = 0 then ((rTree pk sz 3 (pl + 2) 1 (rBit pk sz pl x).2).1 - 8, (rTree pk sz 3 (pl + 2) 1 (rBit pk sz pl x).2).2)
  else if (rBit pk sz (pl + 1) (rBit pk sz pl x).2).1 = 0 then
    (8 + ((rTree pk sz 3 (pl + 10) 1 (rBit pk sz (pl + 1) (rBit pk sz pl x).2).2).1 - 8), (rTree pk sz 3 (pl + 10) 1 (rBit pk sz (pl + 1) (rBit pk sz pl x).2).2).2)
  else (16 + ((rTree pk sz 7 (pl + 18) 1 (rBit pk sz (pl + 1) (rBit pk sz pl x).2).2).1 - 128), (rTree pk sz 7 (pl + 18) 1 (rBit pk sz (pl + 1) (rBit pk sz pl x).2).2).2)
