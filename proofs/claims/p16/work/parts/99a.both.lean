/-! ===== both objects: a call of one leaves the other ===== -/
section BO
variable {S T : mm_S} {G : gb_G}
theorem gm_so : sf_o gm_0 S := ⟨fun c j hc _ q => by unfold gm_0 at q; omega, fun s m j hs hm q => by unfold gm_0 at q; unfold mm_sh at hs; omega⟩
theorem RC_m (ok : gb_ok G) (h : sf_f gm_0 S T) (hw : mm_W T) (hR : RC S G) : RC T G := by
  obtain ⟨-, h1, h2, h3, h4, h5, h6, h7, h8⟩ := hR
  refine ⟨hw, tr_X h gm_so (fun m j hm => ?_) h1, tr_q h (fun j => ?_) ?_ h2, tr_q h (fun j => ?_) ?_ h3, tr_i h gm_so ?_ (fun c j a b => ?_) h4, tr_s ok.2.2.1 h gm_so ?_ h5, tr_t h ?_ (fun j => ?_) h6, tr_p h (fun c j a b => ?_) h7, tr_r h (fun j => ?_) h8⟩ <;> (unfold gm_0; omega)
theorem RM_c (ok : gb_ok G) (h : sf_f gc_0 S T) (hw : mm_W T) (hR : RM S G) : RM T G := by
  obtain ⟨-, h1, h2, h3, h4, h5, h6, h7⟩ := hR
  have g := fun c j q => (h.1 c j q).1
  refine ⟨hw, mt_X ok.1.1.1 (row_le ok.1.1 ok.1.2.1) (fun c j q => g c j ?_) h1, mt_i (fun c j q => g c j ?_) h2, mt_s (fun c j q => g c j ?_) h3, mt_t (fun c j q => g c j ?_) h4, mt_p (fun c j q => g c j ?_) (fun j => (h.1 112 j ?_).2.1) h5, mt_r (fun c j q => g c j ?_) h6, mt_c (fun c j q => g c j ?_) h7⟩
  · unfold nX at q; unfold gc_0; omega
  all_goals (unfold gc_0; omega)
end BO
