/-! ===== what the system does, over the reference's own memory (S ints, T longs; frames apart) ===== -/
def N (x : Int32) : Nat := x.toNatClampNeg
theorem N_nI {j : Nat} (h : j < 2 ^ 31) : N (nI j) = j := nI_clamp h
/-- a number from 0 to b -/
def nb (x : Int32) (b : Nat) : Prop := x = nI (N x) ∧ N x ≤ b
theorem nb_of {x : Int32} {j b : Nat} (h : x = nI j) (hj : j ≤ b) (hb : b < 2 ^ 31) : nb x b := by
  subst h
  unfold nb
  rw [N_nI (by omega)]
  exact ⟨rfl, hj⟩
def Flog (S : MI) (t k v : Int32) : MI := Rlog S (N (S 30 41)) t k v
def Fbec (S : MI) (l : Nat) (s : Int32) : MI := Flog (upI S 208 l s) (nI l) 7 s
/-- rejected by the loop l -/
abbrev rej (S : MI) (l : Nat) : Prop := 3 < S 208 l ∨ S 209 l = 24
def Fenq0 (S : MI) (l : Nat) (k what msg : Int32) : MI := upI (upI (upI (upI S 211 (24 * l + N (S 209 l)) k) 212 (24 * l + N (S 209 l)) what) 213 (24 * l + N (S 209 l)) msg) 209 l (S 209 l + 1)
def Fenq (S : MI) (l : Nat) (k what msg : Int32) : MI := if S 208 l = 1 then Fbec (Fenq0 S l k what msg) l 2 else Fenq0 S l k what msg
def Fput (S : MI) (th : Int32) (l : Nat) (k what msg val : Int32) : MI := if rej S l then Flog S th 4 val else Fenq S l k what msg
/-- how many of the first timers wait at the loop l -/
def Fcnt (S : MI) (l : Nat) : Nat → Nat
  | 0 => 0
  | t + 1 => Fcnt S l t + (if S 226 t = nI l then 1 else 0)
abbrev rejT (S : MI) (l : Nat) : Prop := 2 < S 208 l ∨ S 30 23 = 400 ∨ Fcnt S l (N (S 30 23)) = 24
def Fsch0 (S : MI) (l : Nat) (t : Int32) : MI := upI (upI (upI S 224 (N (S 30 23)) t) 226 (N (S 30 23)) (nI l)) 30 23 (S 30 23 + 1)
def Fsch (S : MI) (th : Int32) (l : Nat) (t : Int32) : MI := if rejT S l then Flog S th 4 t else Flog (if S 208 l = 1 then Fbec (Fsch0 S l t) l 2 else Fsch0 S l t) th 9 (S 30 23)
def TSch (S : MI) (T : ML) (l : Nat) (delay : Int64) : ML := if rejT S l then T else upL T 225 (N (S 30 23)) (T 30 2 + delay)
/-- the chooser -/
def Fch (n : Nat) (c : Int32) : Int32 := if nI n &&& (nI n - 1) = 0 then c &&& (nI n - 1) else if c - c / nI n * nI n < 0 then -(c - c / nI n * nI n) else c - c / nI n * nI n
def FchS (S : MI) : MI := upI S 30 22 (S 30 22 + 1)
def Fshut (S : MI) : Nat → MI
  | 0 => S
  | k + 1 => if Fshut S k 208 k < 3 then Fbec (Fshut S k) k 3 else Fshut S k
def TShut (S : MI) (T : ML) (q t : Int64) : Nat → ML
  | 0 => T
  | k + 1 => if Fshut S k 208 k < 3 then upL (upL (upL (upL (TShut S T q t k) 218 k q) 219 k t) 220 k (T 30 2)) 221 k (T 30 2) else TShut S T q t k
abbrev isT (S : MI) (a : Int32) : Prop := 0 ≤ a ∧ a < S 30 3
abbrev isP (S : MI) (a : Int32) : Prop := 0 ≤ a ∧ a < S 30 27
abbrev isC (S : MI) (a : Int32) : Prop := 0 ≤ a ∧ a < S 30 34
abbrev isL (n : Nat) (a : Int32) : Prop := 0 ≤ a ∧ a < nI n
/-- whether an order's numbers are so -/
abbrev Fcan (n : Nat) (S : MI) (k a b : Int32) : Prop :=
  if k = 0 then True else
  if k = 1 then isT S a ∧ (b = -1 ∨ b = -2 ∨ isL n b) else
  if k = 2 then isT S a ∧ 0 ≤ b else
  if k = 3 then 0 ≤ a ∧ a < S 30 23 else
  if k = 4 ∨ k = 5 ∨ k = 6 ∨ k = 8 ∨ k = 13 then isP S a else
  if k = 7 then isP S a ∧ isT S b ∧ (S 229 (N a) ≠ 0 ∨ S 232 (N a) < 6) else
  if k = 10 ∨ k = 11 then isC S a else
  if k = 12 then 0 ≤ a ∧ a ≤ b else False
abbrev PX : Type := MI × ML × Nat
/-- one listener is told -/
def Ltell (D : Nat → Nat → Nat → PX → PX) (th : Int32) (nf fr p t : Nat) (x : PX) : PX :=
  if x.1 228 p = th ∧ nf < 4 then D (nf + 1) fr t (Flog x.1 th 5 (nI t), x.2.1, x.2.2) else (Fput x.1 th (N (x.1 228 p)) 1 (nI t) 0 (nI t), x.2.1, x.2.2)
def Ltells (D : Nat → Nat → Nat → PX → PX) (th : Int32) (nf fr p k : Nat) : Nat → PX → PX
  | 0, x => x
  | m + 1, x => Ltells D th nf fr p k m (Ltell D th nf fr p (N (x.1 233 (6 * p + (k - (m + 1))))) x)
/-- a promise that can't be completed so -/
abbrev noFin (S : MI) (p : Nat) (how : Int32) : Prop := S 229 p ≠ 0 ∨ (how = 3 ∧ S 231 p ≠ 0)
def Ffin (S : MI) (p : Nat) (how v : Int32) : MI := upI (upI (upI S 229 p how) 230 p (if how = 3 then 0 else v)) 232 p 0
def Lfin (D : Nat → Nat → Nat → PX → PX) (th : Int32) (nf fr p : Nat) (how v : Int32) (x : PX) : PX :=
  if noFin x.1 p how then x else Ltells D th nf fr p (N (x.1 232 p)) (N (x.1 232 p)) (Ffin x.1 p how v, x.2.1, x.2.2)
def Flis (S : MI) (p t : Nat) : MI := upI (upI S 233 (6 * p + N (S 232 p)) (nI t)) 232 p (S 232 p + 1)
def Llis (D : Nat → Nat → Nat → PX → PX) (th : Int32) (nf fr p t : Nat) (x : PX) : PX :=
  if x.1 229 p ≠ 0 then Ltell D th nf fr p t x else (Flis x.1 p t, x.2.1, x.2.2)
def Lsend (G : Nat → Nat → Nat → Int32 → PX → PX) (th : Int32) (nf fr c : Nat) (m : Int32) (x : PX) : PX :=
  if x.1 235 c = th ∧ fr < 4 then G nf fr c m x else (Fput x.1 th (N (x.1 235 c)) 2 (nI c) m (-1), x.2.1, x.2.2)
/-- the loop that an EXECUTE goes to -/
def Ftgt (n : Nat) (S : MI) (th b : Int32) : Nat := if b = -1 then N th else if b = -2 then N (Fch n (S 30 22)) else N b
def FtgtS (S : MI) (b : Int32) : MI := if b = -2 then FchS S else S
def Lcarry (n : Nat) (D : Nat → Nat → Nat → PX → PX) (G : Nat → Nat → Nat → Int32 → PX → PX) (th : Int32) (nf fr : Nat) (k a b : Int32) (x : PX) : PX :=
  if k = 0 then (Flog x.1 th 0 a, x.2.1, x.2.2) else
  if k = 1 then (Fput (FtgtS x.1 b) th (Ftgt n x.1 th b) 0 a 0 a, x.2.1, x.2.2) else
  if k = 2 then (Fsch x.1 th (N th) a, TSch x.1 x.2.1 (N th) b.toInt64, x.2.2) else
  if k = 3 then (upI x.1 226 (N a) (-1), x.2.1, x.2.2) else
  if k = 4 then Lfin D th nf fr (N a) 1 b x else
  if k = 5 then Lfin D th nf fr (N a) 2 b x else
  if k = 6 then Lfin D th nf fr (N a) 3 b x else
  if k = 7 then Llis D th nf fr (N a) (N b) x else
  if k = 10 then Lsend G th nf fr (N a) b x else
  if k = 11 then Lsend G th nf fr (N (a ^^^ 1)) b x else
  if k = 12 then (Fshut x.1 n, TShut x.1 x.2.1 a.toInt64 b.toInt64 n, x.2.2) else
  if k = 13 then (upI x.1 231 (N a) 1, x.2.1, x.2.2) else x
/-- the loop th blocks at the promise a, in the task t, with the order o next -/
def Fblk (S : MI) (th t o : Nat) (a : Int32) : MI := upI (upI (upI (upI S 214 th 1) 215 th (nI t)) 216 th (nI o)) 217 th a
/-- an order; 0 it goes on, 1 it threw, 2 the task pauses -/
def Lord (n : Nat) (D : Nat → Nat → Nat → PX → PX) (G : Nat → Nat → Nat → Int32 → PX → PX) (th : Int32) (nf fr : Nat) (k a b : Int32) (x : PX) : PX × Nat :=
  if 1000 ≤ x.2.2 then (x, 1) else
  if ¬ Fcan n x.1 k a b then ((x.1, x.2.1, x.2.2 + 1), 1) else
  if k = 8 then
    if x.1 229 (N a) ≠ 0 then ((x.1, x.2.1, x.2.2 + 1), 0) else
    if 0 < nf ∨ 0 < fr ∨ x.1 228 (N a) = th then ((Flog x.1 th 3 a, x.2.1, x.2.2 + 1), 0) else ((x.1, x.2.1, x.2.2 + 1), 2)
  else (Lcarry n D G th nf fr k a b (x.1, x.2.1, x.2.2 + 1), 0)
def Lords (n : Nat) (D : Nat → Nat → Nat → PX → PX) (G : Nat → Nat → Nat → Int32 → PX → PX) (th : Int32) (nf fr t : Nat) : Nat → Nat → PX → PX
  | 0, _, x => x
  | m + 1, k, x => match Lord n D G th nf fr (x.1 205 (8 * t + k)) (x.1 206 (8 * t + k)) (x.1 207 (8 * t + k)) x with
    | (y, 0) => Lords n D G th nf fr t m (k + 1) y
    | (y, 1) => (Flog y.1 th 2 (nI t), y.2.1, y.2.2)
    | (y, _) => (Fblk y.1 (N th) t (k + 1) (x.1 206 (8 * t + k)), y.2.1, y.2.2)
def Lecho (G : Nat → Nat → Nat → Int32 → PX → PX) (th : Int32) (nf fr c : Nat) (m : Int32) (x : PX) : PX :=
  if x.2.2 < 1000 then Lsend G th nf fr (N (nI c ^^^ 1)) m (x.1, x.2.1, x.2.2 + 1) else x
/-- a message (or what was thrown: f = 2) from the place j of the pipeline on -/
def Lgo (n : Nat) (D : Nat → Nat → Nat → PX → PX) (G : Nat → Nat → Nat → Int32 → PX → PX) (th : Int32) (nf fr c : Nat) : Nat → Nat → Nat → Int32 → PX → PX
  | 0, _, f, ps, x => if f = 0 then (Flog x.1 th 8 ps, x.2.1, x.2.2) else (Flog x.1 th 2 (-1 - nI c), x.2.1, x.2.2)
  | m + 1, j, f, ps, x =>
    if f = 2 then (if x.1 237 (6 * c + j) = 6 then x else Lgo n D G th nf fr c m (j + 1) 2 ps x) else
    if x.1 237 (6 * c + j) = 6 then Lgo n D G th nf fr c m (j + 1) 0 ps x else
    if x.1 237 (6 * c + j) = 1 then Lgo n D G th nf fr c m (j + 1) 0 (ps + x.1 239 (6 * c + j)) (Flog x.1 th 6 (1000000 * x.1 239 (6 * c + j) + ps), x.2.1, x.2.2) else
    if x.1 237 (6 * c + j) = 2 then (if ps &&& 1 = 1 then (Flog x.1 th 6 (1000000 * x.1 239 (6 * c + j) + ps), x.2.1, x.2.2) else Lgo n D G th nf fr c m (j + 1) 0 ps (Flog x.1 th 6 (1000000 * x.1 239 (6 * c + j) + ps), x.2.1, x.2.2)) else
    if x.1 237 (6 * c + j) = 3 then Lgo n D G th nf fr c m (j + 1) 0 ps (Lecho G th nf (fr + 1) c ps (Flog x.1 th 6 (1000000 * x.1 239 (6 * c + j) + ps), x.2.1, x.2.2)) else
    if x.1 237 (6 * c + j) = 4 then Lgo n D G th nf fr c m (j + 1) 0 ps (D nf (fr + 1) (N (x.1 238 (6 * c + j))) (Flog x.1 th 6 (1000000 * x.1 239 (6 * c + j) + ps), x.2.1, x.2.2)) else
    if x.1 237 (6 * c + j) = 5 then Lgo n D G th nf fr c m (j + 1) (if ps - ps / 3 * 3 = 0 then 2 else 0) ps (Flog x.1 th 6 (1000000 * x.1 239 (6 * c + j) + ps), x.2.1, x.2.2) else
    Lgo n D G th nf fr c m (j + 1) 0 ps (Flog x.1 th 6 (1000000 * x.1 239 (6 * c + j) + ps), x.2.1, x.2.2)
/-- the levels of what runs within what -/
def Lv (n : Nat) (th : Int32) : Nat → (Nat → Nat → Nat → PX → PX) × (Nat → Nat → Nat → Int32 → PX → PX)
  | 0 => (fun _ _ _ x => x, fun _ _ _ _ x => x)
  | g + 1 => (fun nf fr t x => Lords n (Lv n th g).1 (Lv n th g).2 th nf fr t (N (x.1 204 t)) 0 x, fun nf fr c m x => Lgo n (Lv n th g).1 (Lv n th g).2 th nf fr c (N (x.1 236 c)) 0 0 m x)
/-! ===== what is always so ===== -/
def nbt (x : Int32) (b : Nat) : Prop := x = nI (N x) ∧ N x < b
def InvT (S : MI) : Prop := nb (S 30 3) 24 ∧ ∀ t, nb (S 204 t) 8
def InvP (n : Nat) (S : MI) : Prop := nb (S 30 27) 32 ∧ ∀ p, p < N (S 30 27) → nbt (S 228 p) n ∧ nb (S 232 p) 6 ∧ ∀ j, j < N (S 232 p) → nbt (S 233 (6 * p + j)) (N (S 30 3))
def InvC (n : Nat) (S : MI) : Prop := nb (S 30 34) 16 ∧ N (S 30 34) % 2 = 0 ∧ ∀ c, c < N (S 30 34) → nbt (S 235 c) n ∧ nb (S 236 c) 6 ∧ ∀ j, j < N (S 236 c) → S 237 (6 * c + j) = 4 → nbt (S 238 (6 * c + j)) (N (S 30 3))
def InvM (n : Nat) (S : MI) : Prop := nb (S 30 23) 400 ∧ ∀ t, t < N (S 30 23) → nbt (S 224 t) (N (S 30 3)) ∧ (S 226 t = -1 ∨ nbt (S 226 t) n)
def InvQ (S : MI) (l : Nat) : Prop := nb (S 209 l) 24 ∧ ∀ i, i < N (S 209 l) → (S 211 (24 * l + i) = 2 ∧ nbt (S 212 (24 * l + i)) (N (S 30 34))) ∨ ((S 211 (24 * l + i) = 0 ∨ S 211 (24 * l + i) = 1) ∧ nbt (S 212 (24 * l + i)) (N (S 30 3)))
def InvB (S : MI) (l : Nat) : Prop := (S 214 l = 0 ∨ S 214 l = 1) ∧ (S 214 l = 1 → nbt (S 215 l) (N (S 30 3)) ∧ nb (S 216 l) 8 ∧ nbt (S 217 l) (N (S 30 27)))
def InvS (S : MI) (l : Nat) : Prop := S 208 l = 1 ∨ S 208 l = 2 ∨ S 208 l = 3 ∨ S 208 l = 4 ∨ S 208 l = 5
def Inv (n : Nat) (S : MI) : Prop := (1 ≤ n ∧ n ≤ 8) ∧ S 30 1 = nI n ∧ InvT S ∧ InvP n S ∧ InvC n S ∧ InvM n S ∧ (∀ l, l < n → InvQ S l ∧ InvB S l ∧ InvS S l) ∧ S 30 41 = nI (N (S 30 41))
