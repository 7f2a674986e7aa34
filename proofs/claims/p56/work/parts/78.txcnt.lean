/-! THE PURE PART, 48: each of the law's texts is a text of commands, counted. -/
theorem tx_cn : ∀ t, t < 24 → ¬ (rd_cnt (tx_len t) 60 1 0 0 0 0 (tx_D t)).1 = -1 := by decide +kernel
theorem tx_ok {t : Nat} (ht : t < 24) {e q fm : Nat} {C : Nat → Nat → Int32} : decide ((rd_cnt (tx_len t) 60 1 0 e q fm (rd_wr C t 0 0 (tx_len t))).1 = -1) = false := by
  have h := cnt_R (n := tx_len t) 60 1 0 e q fm 0 0 0 (rd_wr C t 0 0 (tx_len t)) (tx_D t) (fun i hi => by
    rw [wr_at, if_pos ⟨by omega, by omega⟩]
    unfold tx_D
    rw [if_pos rfl]
    congr 1
    omega)
  rw [h]
  exact decide_eq_false (tx_cn t ht)
