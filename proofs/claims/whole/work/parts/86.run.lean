/-! the law's run, whole -/
theorem sz_hp {S : List Int} {D : eD} : eSz (hp S D) ≤ 7302250 := by
  have e : eSz (hp S D) = (((List.range 165).drop 8).map fun k => lnL.getD k 0).sum := by
    unfold eSz hp
    rw [← List.map_drop, List.map_map]
    refine congrArg List.sum (List.map_congr_left (fun k hk => ?_))
    rw [show (List.range 165).drop 8 = List.range' 8 157 by decide +kernel, List.mem_range'] at hk
    obtain ⟨i, hi, rfl⟩ := hk
    show (ceF S D _).2.length = _
    rw [ce_len, ln_hi (by omega)]
  rw [e]
  decide +kernel
theorem e_run {L : Nat} {xs : Nat → Int32} (hL : L ≤ 2048) : ∃ (n : Nat) (h' : eH), ex n eLaw 0 (eLoc eLaw [.inr 7]) [] (eH0 L xs) = some (some (.inl 1), h') ∧ h'.length ≤ 600008 ∧ eSz h' ≤ 7302250 := by
  have hS : ((List.range L).map fun j => (xs j).toInt).length ≤ 2048 := by simpa using hL
  have z := law_loop hS 520 0 Dz Dz_Wd (by decide) (by decide) (by omega)
  rw [← w_made] at z
  obtain ⟨n, r, h', h1, rfl, D', rfl⟩ := z
  exact ⟨n, _, h1, by rw [hp_len]; decide, sz_hp⟩
