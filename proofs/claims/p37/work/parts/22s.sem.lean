/-! facts of worlds that no step of the executor makes: their meaning, and what they rest on (fields, arrays by location) -/
def tj_sem (k : Nat) (_ _ _ : zx_V) (_ : List zx_E) : Prop := match k with
  | _ => True
def tj_dep (k : Nat) : tj_Ef := match k with
  | _ => ([], [])
def tj_dj (d e : tj_Ef) : Bool := e.1.all (fun q => !(tj_h2 q.1 q.2 d.1)) && e.2.all (fun l => !(tj_h1 l d.2))
/-- a change elsewhere leaves them true -/
def tj_SO (Λ : List tj_D) : Prop := ∀ (k : Nat) (a b c : zx_V) (Ψ : List Nat) (w w' : List zx_E) (e : tj_Ef), tj_wt Λ Ψ w → tj_fr e Ψ w w' → tj_dj (tj_dep k) e = true → tj_sem k a b c w → tj_sem k a b c w'
