noncomputable def sx_iv0 (lo hi : Nat) : sx_Iv := [sx_full, sx_full, sx_full, sx_full, sx_full, sx_full, (lo, hi)]
noncomputable def sx_law (stop : Nat) (σ : sx_S) : sx_N := sx_run (sx_exec sx_mt sx_caps sx_rc 100000 6) sx_caps true (600000, 7302250) (sx_find sx_t_law) stop 100000 σ
set_option maxRecDepth 1000000 in
theorem sx_pre6 : sx_law 18 (0, [(0, (.inr (.inr (.inr 2))))], [], [], sx_iv0 2147483654 2147483654, 0, 0) = some [(18, [(3, (.inl 0)), (2, (.inr (.inr (.inl 75)))), (1, (.inr (.inr (.inl 0)))), (0, (.inr (.inr (.inr 2))))], [], sx_W0, sx_iv0 2147483654 2147483654, 124, 36542)] := sx_eqO_ok _ _ (by decide +kernel)
