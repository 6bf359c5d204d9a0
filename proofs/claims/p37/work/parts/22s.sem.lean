/-! facts of worlds that no step of the executor makes: their meaning, and what they rest on (fields, arrays by location) -/
/-- 0: the token that the reader a looks at names no half -/
def tj_sm0 (a : zx_V) (w : List zx_E) : Prop := ∃ (q : Nat) (fs : List zx_V) (tk : Int32) (nm : Int64) (qd : Nat) (fd : List zx_V) (hv : Int32) (qn n : Nat) (g : Nat → Int64), a = (.inr (.inr (.inl q))) ∧ w[q]? = some (.inl (4, fs)) ∧ fs[10]? = some (.inl tk) ∧ fs[11]? = some (.inr (.inl nm)) ∧ fs[0]? = some (.inr (.inr (.inl qd))) ∧ w[qd]? = some (.inl (10, fd)) ∧ fd[0]? = some (.inl hv) ∧ fs[1]? = some (.inr (.inr (.inl qn))) ∧ w[qn]? = some (.inr (1, n, .inr (.inl g))) ∧ (tk = 2 → ∀ i : Nat, i < n → (i : Int) < hv.toInt → g i ≠ nm)
/-- linear facts: kind 1000 + n, n written as (coefficients + 512 at 1024 each, bound + 2^63 at 2^64): their sum is at most the bound -/
def tj_l1 (n : Nat) : Int := ((n / 2 ^ 84 : Nat) : Int) - 512
def tj_l2 (n : Nat) : Int := ((n / 2 ^ 74 % 1024 : Nat) : Int) - 512
def tj_l3 (n : Nat) : Int := ((n / 2 ^ 64 % 1024 : Nat) : Int) - 512
def tj_l0 (n : Nat) : Int := ((n % 2 ^ 64 : Nat) : Int) - 9223372036854775808
def tj_lin (n : Nat) (a b c : zx_V) : Prop := ∃ x y z : Int32, a = (.inl x) ∧ b = (.inl y) ∧ c = (.inl z) ∧ tj_l1 n * x.toInt + tj_l2 n * y.toInt + tj_l3 n * z.toInt ≤ tj_l0 n
/-- the ints of an array that a field of an object names; an int of a field -/
def tj_fa (w : List zx_E) (q ci k n : Nat) (g : Nat → Int32) : Prop := ∃ (fs : List zx_V) (p : Nat), w[q]? = some (.inl (ci, fs)) ∧ fs[k]? = some (.inr (.inr (.inl p))) ∧ w[p]? = some (.inr (0, n, .inl g))
def tj_fi (w : List zx_E) (q ci k : Nat) (x : Int32) : Prop := ∃ fs : List zx_V, w[q]? = some (.inl (ci, fs)) ∧ fs[k]? = some (.inl x)
def tj_fl (w : List zx_E) (q ci k n : Nat) (g : Nat → Int64) : Prop := ∃ (fs : List zx_V) (p : Nat), w[q]? = some (.inl (ci, fs)) ∧ fs[k]? = some (.inr (.inr (.inl p))) ∧ w[p]? = some (.inr (1, n, .inr (.inl g)))
/-- a LOAD brought into 0 .. 99 -/
def tj_cl (y : Int) : Nat := if y < 0 then 0 else if 99 < y then 99 else y.toNat
/-- 1: a long, not 0; 2: a is the cell of b and c; 3, 4: the stretches of the sums a: within their room; not empty where they are known; 5: those of b, d are known; 6: the flow to b is above 0 -/
def tj_sm1 (a : zx_V) : Prop := ∃ x : Int64, a = (.inr (.inl x)) ∧ x ≠ 0
def tj_sm2 (a b c : zx_V) : Prop := ∃ x y z : Int32, a = (.inl x) ∧ b = (.inl y) ∧ c = (.inl z) ∧ x.toInt = 100 * y.toInt + tj_cl z.toInt
def tj_sm3 (a b : zx_V) (w : List zx_E) : Prop := ∃ (q : Nat) (n : Int32) (s c : Nat → Int32), a = (.inr (.inr (.inl q))) ∧ b = (.inl n) ∧ tj_fa w q 9 5 2100 s ∧ tj_fa w q 9 6 2100 c ∧ ∀ i, i < 2100 → (s i).toInt + (c i).toInt ≤ n.toInt
def tj_sm4 (a : zx_V) (w : List zx_E) : Prop := ∃ (q p : Nat) (fs : List zx_V) (L : Int32) (s c : Nat → Int32), a = (.inr (.inr (.inl q))) ∧ w[q]? = some (.inl (9, fs)) ∧ fs[1]? = some (.inr (.inr (.inl p))) ∧ tj_fi w p 1 9 L ∧ tj_fa w q 9 5 2100 s ∧ tj_fa w q 9 6 2100 c ∧ (0 ≤ L.toInt ∧ L.toInt ≤ 20) ∧ (∀ l : Nat, l < 100 → 0 ≤ (c (100 * L.toInt.toNat + l)).toInt) ∧ ∀ i : Nat, i < 2100 → (i : Int) < 100 * (L.toInt + 1) → 0 ≤ (c i).toInt → 1 ≤ (s i).toInt + (c i).toInt
def tj_sm5 (a b d : zx_V) (w : List zx_E) : Prop := ∃ (q : Nat) (s c : Nat → Int32) (x y : Int32), a = (.inr (.inr (.inl q))) ∧ tj_fa w q 9 5 2100 s ∧ tj_fa w q 9 6 2100 c ∧ b = (.inl x) ∧ d = (.inl y) ∧ 0 ≤ x.toInt ∧ x.toInt ≤ 20 ∧ 0 ≤ (c (100 * x.toInt.toNat + tj_cl y.toInt)).toInt ∧ 1 ≤ (s (100 * x.toInt.toNat + tj_cl y.toInt)).toInt + (c (100 * x.toInt.toNat + tj_cl y.toInt)).toInt
def tj_sm6 (a b : zx_V) (w : List zx_E) : Prop := ∃ (q : Nat) (g : Nat → Int64) (x : Int32), a = (.inr (.inr (.inl q))) ∧ tj_fl w q 6 9 100 g ∧ b = (.inl x) ∧ 0 ≤ x.toInt ∧ 0 < (g x.toInt.toNat).toInt
/-- a formula's code, n steps from k on, with so many values laid by: every step finds its values and room -/
def tj_cd (g : Nat → Int32) : Nat → Nat → Nat → Prop
  | 0, _, _ => True
  | n + 1, k, d => ((g k).toInt = 126 ∧ 1 ≤ d ∧ tj_cd g n (k + 1) d) ∨ ((g k).toInt ≠ 126 ∧ 97 ≤ (g k).toInt ∧ (g k).toInt ≤ 122 ∧ d < 60 ∧ tj_cd g n (k + 1) (d + 1)) ∨ ((g k).toInt ≠ 126 ∧ ((g k).toInt < 97 ∨ 122 < (g k).toInt) ∧ 2 ≤ d ∧ tj_cd g n (k + 1) (d - 1))
/-- 7: what the reference a was told holds together, of the bank that counts: persons have turns, halves their places, formulas can be computed -/
def tj_ro (b : Nat) (hv pv dv tm ho pe cd rf rt : Nat → Int32) : Prop := (∀ p : Nat, (p : Int) < (pv b).toInt → 1 ≤ (tm (4 * b + p)).toInt ∧ (tm (4 * b + p)).toInt ≤ 14) ∧ (∀ h p : Nat, (h : Int) < (hv b).toInt → (p : Int) < (pv b).toInt → (pe (8 * b + h)).toInt = p → ∃ k, k < 3 ∧ (ho (3 * (4 * b + p) + k)).toInt = h) ∧ (∀ r : Nat, (r : Int) < 2 * (dv b).toInt → 0 ≤ (rf (12 * b + r)).toInt ∧ (rt (12 * b + r)).toInt ≤ 1280 ∧ tj_cd cd ((rt (12 * b + r)).toInt - (rf (12 * b + r)).toInt).toNat (rf (12 * b + r)).toInt.toNat 0)
def tj_sm7 (a : zx_V) (w : List zx_E) : Prop := ∃ (q : Nat) (bk : Int32) (hv pv dv tm ho pe cd rf rt : Nat → Int32), a = (.inr (.inr (.inl q))) ∧ tj_fi w q 12 39 bk ∧ tj_fa w q 12 11 2 hv ∧ tj_fa w q 12 13 2 pv ∧ tj_fa w q 12 14 2 dv ∧ tj_fa w q 12 24 8 tm ∧ tj_fa w q 12 23 24 ho ∧ tj_fa w q 12 19 16 pe ∧ tj_fa w q 12 34 1280 cd ∧ tj_fa w q 12 26 24 rf ∧ tj_fa w q 12 27 24 rt ∧ (bk.toInt = 0 ∨ bk.toInt = 1) ∧ tj_ro bk.toInt.toNat hv pv dv tm ho pe cd rf rt
/-- who is in; is he alive -/
def tj_who (bk : Int32) (al tm ho : Nat → Int32) (p d : Int32) : Int32 := ho (Int32.ofNat 3 * (Int32.ofNat 4 * bk + p) + al (Int32.ofNat 7 + Int32.ofNat 14 * p + (d - d / tm (Int32.ofNat 4 * bk + p).toNatClampNeg * tm (Int32.ofNat 4 * bk + p).toNatClampNeg)).toNatClampNeg).toNatClampNeg
def tj_alv (al : Nat → Int32) (h : Int32) : Prop := ((al 2 >>> (h &&& 31)) &&& Int32.ofNat 1) = Int32.ofNat 1
/-- 8: the bargain's deeds are deeds; 9: what lies in the game of the person b for the first c days are deeds or none, deeds only where who is in is alive; 10: c is a half of the person b -/
def tj_sm8 (a : zx_V) (w : List zx_E) : Prop := ∃ (q : Nat) (bk m : Int32) (dv g : Nat → Int32), a = (.inr (.inr (.inl q))) ∧ tj_fi w q 12 39 bk ∧ tj_fi w q 12 58 m ∧ tj_fa w q 12 14 2 dv ∧ tj_fa w q 12 57 14 g ∧ ∀ i : Nat, (i : Int) < m.toInt → (g i).toInt < (dv bk.toInt.toNat).toInt
def tj_sm9 (a b c : zx_V) (w : List zx_E) : Prop := ∃ (q : Nat) (bk p n : Int32) (dv g al tm ho : Nat → Int32), a = (.inr (.inr (.inl q))) ∧ b = (.inl p) ∧ c = (.inl n) ∧ tj_fi w q 12 39 bk ∧ tj_fa w q 12 14 2 dv ∧ tj_fa w q 12 54 2000 g ∧ tj_fa w q 12 49 119 al ∧ tj_fa w q 12 24 8 tm ∧ tj_fa w q 12 23 24 ho ∧ ∀ i : Nat, (i : Int) < 100 * n.toInt → (g i).toInt < (dv bk.toInt.toNat).toInt ∧ (0 ≤ (g i).toInt → tj_alv al (tj_who bk al tm ho p (al 0 + Int32.ofNat (i / 100))))
def tj_sm10 (a b c : zx_V) (w : List zx_E) : Prop := ∃ (q : Nat) (bk p h : Int32) (ho : Nat → Int32) (k : Nat), a = (.inr (.inr (.inl q))) ∧ b = (.inl p) ∧ c = (.inl h) ∧ tj_fi w q 12 39 bk ∧ tj_fa w q 12 23 24 ho ∧ k < 3 ∧ 0 ≤ p.toInt ∧ p.toInt ≤ 3 ∧ (ho (3 * (4 * bk.toInt.toNat + p.toInt.toNat) + k)).toInt = h.toInt
/-- 11: the game of the search a is that of its sums -/
def tj_sm11 (a : zx_V) (w : List zx_E) : Prop := ∃ (q p z : Nat) (fs fs' : List zx_V), a = (.inr (.inr (.inl q))) ∧ w[q]? = some (.inl (6, fs)) ∧ fs[0]? = some (.inr (.inr (.inl p))) ∧ fs[1]? = some (.inr (.inr (.inl z))) ∧ w[z]? = some (.inl (9, fs')) ∧ fs'[1]? = some (.inr (.inr (.inl p)))
/-- 12: a long above 0; 13: c tells how the longs a, b lie; 14: c is the flow of the search a to b; 15: the long 0 -/
def tj_sm12 (a : zx_V) : Prop := ∃ x : Int64, a = (.inr (.inl x)) ∧ 1 ≤ x.toInt
def tj_sm13 (a b c : zx_V) : Prop := ∃ (x y : Int64) (z : Int32), a = (.inr (.inl x)) ∧ b = (.inr (.inl y)) ∧ c = (.inl z) ∧ (0 < z.toInt → y.toInt < x.toInt)
def tj_sm14 (a b c : zx_V) (w : List zx_E) : Prop := ∃ (q : Nat) (g : Nat → Int64) (x : Int32), a = (.inr (.inr (.inl q))) ∧ tj_fl w q 6 9 100 g ∧ b = (.inl x) ∧ 0 ≤ x.toInt ∧ c = (.inr (.inl (g x.toInt.toNat)))
def tj_sm15 (a : zx_V) : Prop := a = (.inr (.inl 0))
/-- 16: who of the person b is in on the day c is alive -/
def tj_sm16 (a b c : zx_V) (w : List zx_E) : Prop := ∃ (q : Nat) (bk p d : Int32) (al tm ho : Nat → Int32), a = (.inr (.inr (.inl q))) ∧ b = (.inl p) ∧ c = (.inl d) ∧ tj_fi w q 12 39 bk ∧ tj_fa w q 12 49 119 al ∧ tj_fa w q 12 24 8 tm ∧ tj_fa w q 12 23 24 ho ∧ tj_alv al (tj_who bk al tm ho p d)
def tj_smk (k : Nat) (a b c : zx_V) (w : List zx_E) : Prop := match k with
  | 0 => tj_sm0 a w
  | 1 => tj_sm1 a
  | 2 => tj_sm2 a b c
  | 3 => tj_sm3 a b w
  | 4 => tj_sm4 a w
  | 5 => tj_sm5 a b c w
  | 6 => tj_sm6 a b w
  | 7 => tj_sm7 a w
  | 8 => tj_sm8 a w
  | 9 => tj_sm9 a b c w
  | 10 => tj_sm10 a b c w
  | 11 => tj_sm11 a w
  | 12 => tj_sm12 a
  | 13 => tj_sm13 a b c
  | 14 => tj_sm14 a b c w
  | 15 => tj_sm15 a
  | 16 => tj_sm16 a b c w
  | _ => True
def tj_sem (k : Nat) (a b c : zx_V) (w : List zx_E) : Prop := match Nat.blt k 1000 with
  | true => tj_smk k a b c w
  | false => tj_lin (k - 1000) a b c
def tj_dep (k : Nat) : tj_Ef := match k with
  | 0 => ([(49, 10), (49, 11), (49, 0), (49, 1), (27, 0), (13, 0)], [44])
  | 3 => ([(83, 5), (83, 6), (93, 5), (93, 6)], [77, 78, 87, 88])
  | 4 => ([(83, 1), (83, 5), (83, 6), (93, 1), (93, 5), (93, 6), (61, 9)], [77, 78, 87, 88])
  | 5 => ([(83, 5), (83, 6), (93, 5), (93, 6)], [77, 78, 87, 88])
  | 6 => ([(99, 9)], [95])
  | 7 => ([(149, 39), (149, 11), (149, 13), (149, 14), (149, 24), (149, 23), (149, 19), (149, 34), (149, 26), (149, 27)], [103, 105, 106, 116, 115, 111, 118, 137, 138])
  | 8 => ([(149, 39), (149, 58), (149, 14), (149, 57)], [106, 126])
  | 9 => ([(149, 39), (149, 14), (149, 54), (149, 49), (149, 24), (149, 23)], [106, 124, 139, 116, 115])
  | 10 => ([(149, 39), (149, 23)], [115])
  | 11 => ([(99, 0), (99, 1), (83, 1), (93, 1)], [])
  | 14 => ([(99, 9)], [95])
  | 16 => ([(149, 39), (149, 49), (149, 24), (149, 23)], [139, 116, 115])
  | _ => ([], [])
def tj_dj (d e : tj_Ef) : Bool := e.1.all (fun q => !(tj_h2 q.1 q.2 d.1)) && e.2.all (fun l => !(tj_h1 l d.2))
/-- a change elsewhere leaves them true -/
def tj_SO (Λ : List tj_D) : Prop := ∀ (k : Nat) (a b c : zx_V) (Ψ : List Nat) (w w' : List zx_E) (e : tj_Ef), tj_wt Λ Ψ w → tj_fr e Ψ w w' → tj_dj (tj_dep k) e = true → tj_sem k a b c w → tj_sem k a b c w'
