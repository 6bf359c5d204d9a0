/-! facts of worlds that no step of the executor makes: their meaning, and what they rest on (fields, arrays by location) -/
/-- 0: the token that the reader a looks at names no half -/
def tj_sm0 (a : zx_V) (w : List zx_E) : Prop := ∃ (q : Nat) (fs : List zx_V) (tk : Int32) (nm : Int64) (qd : Nat) (fd : List zx_V) (hv : Int32) (qn n : Nat) (g : Nat → Int64), a = (.inr (.inr (.inl q))) ∧ w[q]? = some (.inl (4, fs)) ∧ fs[10]? = some (.inl tk) ∧ fs[11]? = some (.inr (.inl nm)) ∧ fs[0]? = some (.inr (.inr (.inl qd))) ∧ w[qd]? = some (.inl (10, fd)) ∧ fd[0]? = some (.inl hv) ∧ fs[1]? = some (.inr (.inr (.inl qn))) ∧ w[qn]? = some (.inr (1, n, .inr (.inl g))) ∧ (tk = 2 → ∀ i : Nat, i < n → (i : Int) < hv.toInt → g i ≠ nm)
/-- linear facts: kind 1000 + n, n written as (coefficients + 32 at 64 each, bound + 2^63 at 2^64): their sum is at most the bound -/
def tj_l1 (n : Nat) : Int := ((n / 2 ^ 76 : Nat) : Int) - 32
def tj_l2 (n : Nat) : Int := ((n / 2 ^ 70 % 64 : Nat) : Int) - 32
def tj_l3 (n : Nat) : Int := ((n / 2 ^ 64 % 64 : Nat) : Int) - 32
def tj_l0 (n : Nat) : Int := ((n % 2 ^ 64 : Nat) : Int) - 9223372036854775808
def tj_lin (n : Nat) (a b c : zx_V) : Prop := ∃ x y z : Int32, a = (.inl x) ∧ b = (.inl y) ∧ c = (.inl z) ∧ tj_l1 n * x.toInt + tj_l2 n * y.toInt + tj_l3 n * z.toInt ≤ tj_l0 n
def tj_smk (k : Nat) (a _ _ : zx_V) (w : List zx_E) : Prop := match k with
  | 0 => tj_sm0 a w
  | _ => True
def tj_sem (k : Nat) (a b c : zx_V) (w : List zx_E) : Prop := match Nat.blt k 1000 with
  | true => tj_smk k a b c w
  | false => tj_lin (k - 1000) a b c
def tj_dep (k : Nat) : tj_Ef := match k with
  | 0 => ([(49, 10), (49, 11), (49, 0), (49, 1), (27, 0), (13, 0)], [44])
  | _ => ([], [])
def tj_dj (d e : tj_Ef) : Bool := e.1.all (fun q => !(tj_h2 q.1 q.2 d.1)) && e.2.all (fun l => !(tj_h1 l d.2))
/-- a change elsewhere leaves them true -/
def tj_SO (Λ : List tj_D) : Prop := ∀ (k : Nat) (a b c : zx_V) (Ψ : List Nat) (w w' : List zx_E) (e : tj_Ef), tj_wt Λ Ψ w → tj_fr e Ψ w w' → tj_dj (tj_dep k) e = true → tj_sem k a b c w → tj_sem k a b c w'
