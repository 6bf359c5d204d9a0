/-! data of the law -/
theorem sx_chk_app {own : String} {cc : ByteArray} {nL : Nat} {init : Bool} {rt : Option FieldType} : ∀ {a t : List (List (Nat × sx_I))} {r : Nat}, sx_chkTab own cc nL init rt r a = true → sx_chkTab own cc nL init rt (r + a.length) t = true → sx_chkTab own cc nL init rt r (a ++ t) = true
  | [], t, r, _, h => h
  | x :: a, t, r, h, h2 => by
    simp only [sx_chkTab, Bool.and_eq_true, List.cons_append] at h ⊢
    refine ⟨h.1, sx_chk_app h.2 ?_⟩
    rwa [show r + 1 + a.length = r + (x :: a).length by rw [List.length_cons]; omega]
def sx_d_law : List (List (Nat × sx_I)) := sx_d_law0 ++ (sx_d_law1 ++ (sx_d_law2 ++ (sx_d_law3 ++ (sx_d_law4 ++ (sx_d_law5 ++ (sx_d_law6 ++ (sx_d_law7 ++ (sx_d_law8 ++ (sx_d_law9 ++ (sx_d_law10 ++ (sx_d_law11 ++ (sx_d_law12 ++ (sx_d_law13 ++ (sx_d_law14))))))))))))))
set_option maxRecDepth 100000 in
theorem sx_q_law : sx_t_law = sx_cT sx_d_law := rfl
theorem sx_k_law : sx_chkTab "TwoInOneLaw" code 4 false (some .boolean) 0 sx_d_law = true := sx_chk_app sx_k_law0 (sx_chk_app sx_k_law1 (sx_chk_app sx_k_law2 (sx_chk_app sx_k_law3 (sx_chk_app sx_k_law4 (sx_chk_app sx_k_law5 (sx_chk_app sx_k_law6 (sx_chk_app sx_k_law7 (sx_chk_app sx_k_law8 (sx_chk_app sx_k_law9 (sx_chk_app sx_k_law10 (sx_chk_app sx_k_law11 (sx_chk_app sx_k_law12 (sx_chk_app sx_k_law13 (sx_k_law14))))))))))))))
theorem sx_lawOk : sx_tabOk "TwoInOneLaw" code 4 false (some .boolean) (sx_find sx_t_law) := sx_tab_ok sx_q_law sx_k_law
