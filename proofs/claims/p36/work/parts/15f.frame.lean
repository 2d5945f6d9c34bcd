theorem run_fr (f : Nat) : ∀ (d y pc : Nat) (ls st : List Value) (S : mm_S) (r : Option Value × mm_S), mm_run f d y pc ls st S = some r → mm_Qf S r.2 := by
  induction f with
  | zero => intro d y pc ls st S r h; cases h
  | succ f ih =>
    intro d y pc ls st S r h
    unfold mm_run at h
    cases ht : mm_mt[y]? with
    | none => rw [ht] at h; cases h
    | some t =>
      simp only [ht] at h
      cases hd : decode t.2.1 pc with
      | error x => rw [hd] at h; cases h
      | ok il =>
        obtain ⟨i, len⟩ := il
        simp only [hd] at h
        by_cases hl : (mm_lk i len && mm_mo i S (mm_st d t pc ls st S i)) = true
        · simp only [if_pos hl] at h
          have hf := fa_st (S := S) (ls := ls) (st := st) (pc := pc) (d := d) (t := t) i
          cases ha : mm_st d t pc ls st S i with
          | none => rw [ha] at h; cases h
          | some A =>
            rw [ha] at hf
            rcases A with q | q | q
            · simp only [ha] at h
              have hq : mm_Qf S q.2.2.2 := hf
              exact qf_trans hq (ih _ _ _ _ _ _ _ h)
            · simp only [ha] at h
              have hq : mm_Qf S q.2.2.2 := hf
              cases d with
              | zero => cases h
              | succ d =>
                simp only at h
                by_cases hq1 : q.1 < mm_nc
                · simp only [if_pos hq1] at h
                  cases hu : mm_mt[q.1]? with
                  | none => rw [hu] at h; cases h
                  | some u =>
                    simp only [hu] at h
                    by_cases hf2 : (mm_as q.2.1).length ≤ u.2.2.1
                    · simp only [if_pos hf2] at h
                      cases hr : mm_run f d q.1 0 (mm_en u.2.2.1 q.2.1) [] q.2.2.2 with
                      | none => rw [hr] at h; cases h
                      | some z =>
                        rw [hr] at h
                        exact qf_trans hq (qf_trans (ih _ _ _ _ _ _ _ hr) (ih _ _ _ _ _ _ _ h))
                    · rw [if_neg hf2] at h; cases h
                · rw [if_neg hq1] at h; cases h
            · simp only [ha] at h
              have hq : mm_Qf S q.2 := hf
              cases h
              exact hq
        · rw [if_neg hl] at h; cases h
theorem cl_fr {d y : Nat} {as : List Value} {S : mm_S} {r : Option Value × mm_S} (h : mm_cl d y as S = some r) : mm_Qf S r.2 := by
  unfold mm_cl at h
  split at h
  · cases h
  · split at h
    · obtain ⟨f, hf⟩ := mm_ex_iff.mp h
      exact run_fr f _ _ _ _ _ _ _ hf
    · cases h
