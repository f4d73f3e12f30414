theorem Rel_start : Rel xst0 mst0 0 0 0 := by
  have hm : ∀ x, mst0.2.1 0 x = 0 := by
    intro x
    show upd (fun _ => 0) (nI 0).toNatClampNeg 0 x = 0
    unfold upd
    split <;> rfl
  obtain ⟨U, hU⟩ := VS_ex (xst0.2.1 2)
  refine ⟨fun k hk => ⟨CR_empty (fun j hj => hm _) (fun i hi => rfl), CW_empty (fun i hi => rfl)⟩, ⟨U, hU, XC_new rfl (fun c hc => if_pos hc) (fun x hx => rfl)⟩, ⟨rfl, fun k hk => absurd hk (by omega), rfl, rfl, by omega⟩, ⟨rfl, rfl, rfl⟩, ⟨rfl, by omega, rfl, rfl, by omega⟩, fun j hj => absurd hj (by omega)⟩
