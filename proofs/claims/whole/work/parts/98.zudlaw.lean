/-! THE LAW: every call -/
theorem isIn_h {a b c : Int64} {h h1 : aH} {v : Int32} (e : f_X12_isIn a b c h = some (v, h1)) : h1 = h := by
  unfold f_X12_isIn f_X12_isIn_17 f_X12_isIn_18 at e
  split at e
  · exact ((so_1 (chk_o e).2).2).symm
  · split at e
    · exact ((so_1 (chk_o e).2).2).symm
    · exact ((so_1 (chk_o e).2).2).symm
theorem fault_h {x : Nat} {a : Int32} {h h1 : aH} {v : Int32} (e : f_X11_fault x a h = some (v, h1)) : h1 = h := by
  unfold f_X11_fault at e
  split at e
  · exact ((so_1 (ko_o e).2).2).symm
  · split at e
    · exact ((so_1 (ko_o e).2).2).symm
    · exact ((so_1 e).2).symm
theorem octet_h {x : Nat} {a : Int32} {h h1 : aH} {v : Int32} (e : f_X11_octet x a h = some (v, h1)) : h1 = h := by
  unfold f_X11_octet f_X11_octet_31 f_X11_octet_32 at e
  split at e
  · exact ((so_1 e).2).symm
  · obtain ⟨a3, -, e⟩ := kr_o (ko_o e).2
    have e := (ko_o e).2
    split at e
    · exact ((so_1 e).2).symm
    · obtain ⟨a7, -, e⟩ := kr_o e
      obtain ⟨n, -, e⟩ := ka_o e
      exact ((so_1 (chk_o e).2).2).symm
theorem status_h {x : Nat} {a : Int32} {h h1 : aH} {v : Int32} (e : f_X11_status x a h = some (v, h1)) : h1 = h := by
  unfold f_X11_status f_X11_status_22 f_X11_status_23 at e
  split at e
  · exact ((so_1 e).2).symm
  · obtain ⟨a3, -, e⟩ := kr_o (ko_o e).2
    obtain ⟨n, -, e⟩ := ka_o e
    split at e
    · exact ((so_1 e).2).symm
    · exact ((so_1 (chk_o e).2).2).symm
theorem end_k {x : Nat} {a : Int32} {h h1 : aH} {v : Int32} (e : f_X12_end x a h = some (v, h1)) : hK h x = some (.inl 11) := by
  unfold f_X12_end f_X12_end_12 at e
  split at e
  · exact (ko_o e).1
  · exact (ko_o e).1
theorem seed_k {x : Nat} {a : Int32} {h h1 : aH} {v : Int32} (e : f_X12_seed x a h = some (v, h1)) : hK h x = some (.inl 11) := by
  unfold f_X12_seed at e
  split at e
  · exact (ko_o e).1
  · exact (ko_o e).1
theorem store_k {x : Nat} {a b : Int32} {h h1 : aH} {v : Int32} (e : f_X12_store x a b h = some (v, h1)) : hK h x = some (.inl 11) := by
  unfold f_X12_store f_X12_store_21 at e
  obtain ⟨v6, h7, a1, a2⟩ := bd_o e
  rw [isIn_h a1] at a2
  split at a2
  · exact (ko_o a2).1
  · exact (ko_o a2).1
theorem feed_k {x : Nat} {a b c d e : Int32} {h h1 : aH} {v : Int32} (e : f_X12_feed x a b c d e h = some (v, h1)) : hK h x = some (.inl 11) := by
  unfold f_X12_feed at e
  exact (ko_o e).1
theorem machine_k {x : Nat} {h h1 : aH} {v : Int32} (e : f_X12_machine x h = some (v, h1)) : hK h x = some (.inl 11) := by
  unfold f_X12_machine at e
  exact (ko_o e).1
theorem has_k {x : Nat} {a : Int32} {h h1 : aH} {v : Int32} (e : f_X12_has x a h = some (v, h1)) : hK h x = some (.inl 11) := by
  unfold f_X12_has at e
  exact (ko_o e).1
theorem letter_k {x : Nat} {a b : Int32} {h h1 : aH} {v : Int32} (e : f_X12_letter x a b h = some (v, h1)) : hK h x = some (.inl 11) := by
  unfold f_X12_letter at e
  exact (ko_o e).1
theorem pointer_k {x : Nat} {a b : Int32} {h h1 : aH} {v : Int32} (e : f_X12_pointer x a b h = some (v, h1)) : hK h x = some (.inl 11) := by
  unfold f_X12_pointer at e
  exact (ko_o e).1
theorem shelf_k {x : Nat} {a b c : Int32} {h h1 : aH} {v : Int32} (e : f_X12_shelf x a b c h = some (v, h1)) : hK h x = some (.inl 11) := by
  unfold f_X12_shelf at e
  exact (ko_o e).1
theorem object_k {x : Nat} {a b : Int32} {h h1 : aH} {v : Int32} (e : f_X12_object x a b h = some (v, h1)) : hK h x = some (.inl 11) := by
  unfold f_X12_object at e
  exact (ko_o e).1
theorem hole_k {x : Nat} {a b : Int32} {h h1 : aH} {v : Int32} (e : f_X12_hole x a b h = some (v, h1)) : hK h x = some (.inl 11) := by
  unfold f_X12_hole at e
  exact (ko_o e).1
theorem octetAt_k {x : Nat} {a : Int32} {h h1 : aH} {v : Int32} (e : f_X12_octetAt x a h = some (v, h1)) : hK h x = some (.inl 11) := by
  unfold f_X12_octetAt at e
  exact (ko_o e).1
theorem kept_k {x : Nat} {a b : Int32} {h h1 : aH} {v : Int32} (e : f_X12_kept x a b h = some (v, h1)) : hK h x = some (.inl 11) := by
  unfold f_X12_kept at e
  exact (ko_o e).1
theorem rounds_k {x : Nat} {a b c : Int32} {h h1 : aH} {v : Int32} (e : f_X12_rounds x a b c h = some (v, h1)) : hK h x = some (.inl 11) := by
  unfold f_X12_rounds at e
  exact (ko_o e).1
theorem exact_k {x : Nat} {a b : Int32} {h h1 : aH} {v : Int32} (e : f_X12_exact x a b h = some (v, h1)) : hK h x = some (.inl 11) := by
  unfold f_X12_exact at e
  exact (ko_o e).1
theorem fits_k {x : Nat} {a b : Int32} {h h1 : aH} {v : Int32} (e : f_X12_fits x a b h = some (v, h1)) : hK h x = some (.inl 11) := by
  unfold f_X12_fits at e
  exact (ko_o e).1
theorem quick_k {x : Nat} {a b : Int32} {h h1 : aH} {v : Int32} (e : f_X12_quick x a b h = some (v, h1)) : hK h x = some (.inl 11) := by
  unfold f_X12_quick at e
  exact (ko_o e).1
theorem window_k {x : Nat} {a b : Int32} {h h1 : aH} {v : Int32} (e : f_X12_window x a b h = some (v, h1)) : hK h x = some (.inl 11) := by
  unfold f_X12_window at e
  exact (ko_o e).1
theorem reachers_k {x : Nat} {a : Int32} {h h1 : aH} {v : Int32} (e : f_X12_reachers x a h = some (v, h1)) : hK h x = some (.inl 11) := by
  unfold f_X12_reachers at e
  exact (ko_o e).1
theorem room_k {x : Nat} {a : Int32} {h h1 : aH} {v : Int32} (e : f_X12_room x a h = some (v, h1)) : hK h x = some (.inl 11) := by
  unfold f_X12_room at e
  exact (ko_o e).1
theorem odds_k {x : Nat} {h h1 : aH} {v : Int32} (e : f_X12_odds x h = some (v, h1)) : hK h x = some (.inl 11) := by
  unfold f_X12_odds at e
  exact (ko_o e).1
theorem share_k {x : Nat} {a : Int32} {h h1 : aH} {v : Int32} (e : f_X12_share x a h = some (v, h1)) : hK h x = some (.inl 11) := by
  unfold f_X12_share at e
  exact (ko_o e).1
theorem see_k {x : Nat} {h h1 : aH} {v : Int32} (e : f_X12_see x h = some (v, h1)) : hK h x = some (.inl 11) := by
  unfold f_X12_see at e
  exact (ko_o e).1
theorem places_k {x : Nat} {a b : Int32} {h h1 : aH} {v : Int32} (e : f_X12_places x a b h = some (v, h1)) : hK h x = some (.inl 11) := by
  unfold f_X12_places at e
  exact (ko_o e).1
theorem tells_k {x : Nat} {a b : Int32} {h h1 : aH} {v : Int32} (e : f_X12_tells x a b h = some (v, h1)) : hK h x = some (.inl 11) := by
  unfold f_X12_tells at e
  exact (ko_o e).1
theorem alloc_k {x : Nat} {a b : Int32} {h h1 : aH} {v : Int32} (e : f_X12_alloc x a b h = some (v, h1)) : hK h x = some (.inl 11) := by
  unfold f_X12_alloc at e
  exact (ko_o e).1
theorem free_k {x : Nat} {a : Int32} {h h1 : aH} {v : Int32} (e : f_X12_free x a h = some (v, h1)) : hK h x = some (.inl 11) := by
  unfold f_X12_free at e
  exact (ko_o e).1
theorem copy_k {x : Nat} {a b : Int32} {h h1 : aH} {v : Int32} (e : f_X12_copy x a b h = some (v, h1)) : hK h x = some (.inl 11) := by
  unfold f_X12_copy at e
  exact (ko_o e).1
theorem move_k {x : Nat} {a b : Int32} {h h1 : aH} {v : Int32} (e : f_X12_move x a b h = some (v, h1)) : hK h x = some (.inl 11) := by
  unfold f_X12_move at e
  exact (ko_o e).1
theorem narrow_k {x : Nat} {a b c : Int32} {h h1 : aH} {v : Int32} (e : f_X12_narrow x a b c h = some (v, h1)) : hK h x = some (.inl 11) := by
  unfold f_X12_narrow at e
  exact (ko_o e).1
theorem limit_k {x : Nat} {a b : Int32} {h h1 : aH} {v : Int32} (e : f_X12_limit x a b h = some (v, h1)) : hK h x = some (.inl 11) := by
  unfold f_X12_limit at e
  exact (ko_o e).1
theorem seal_k {x : Nat} {a b : Int32} {h h1 : aH} {v : Int32} (e : f_X12_seal x a b h = some (v, h1)) : hK h x = some (.inl 11) := by
  unfold f_X12_seal at e
  exact (ko_o e).1
theorem unseal_k {x : Nat} {a b : Int32} {h h1 : aH} {v : Int32} (e : f_X12_unseal x a b h = some (v, h1)) : hK h x = some (.inl 11) := by
  unfold f_X12_unseal at e
  exact (ko_o e).1
theorem load_k {x : Nat} {a : Int32} {h h1 : aH} {v : Int32} (e : f_X12_load x a h = some (v, h1)) : hK h x = some (.inl 11) := by
  unfold f_X12_load at e
  exact (ko_o e).1
theorem shelve_k {x : Nat} {a b : Int32} {h h1 : aH} {v : Int32} (e : f_X12_shelve x a b h = some (v, h1)) : hK h x = some (.inl 11) := by
  unfold f_X12_shelve at e
  exact (ko_o e).1
theorem take_k {x : Nat} {a b c : Int32} {h h1 : aH} {v : Int32} (e : f_X12_take x a b c h = some (v, h1)) : hK h x = some (.inl 11) := by
  unfold f_X12_take at e
  exact (ko_o e).1
theorem chance_k {x : Nat} {a : Int32} {h h1 : aH} {v : Int32} (e : f_X12_chance x a h = some (v, h1)) : hK h x = some (.inl 11) := by
  unfold f_X12_chance at e
  exact (ko_o e).1
theorem undo_k {x : Nat} {h h1 : aH} {v : Int32} (e : f_X12_undo x h = some (v, h1)) : hK h x = some (.inl 11) := by
  unfold f_X12_undo at e
  exact (ko_o e).1
theorem ask_k {x : Nat} {h h1 : aH} {v : Int64} (e : f_X12_ask x h = some (v, h1)) : hK h x = some (.inl 11) := by
  unfold f_X12_ask at e
  exact (ko_o e).1
theorem image_k {x : Nat} {h h1 : aH} {v : Int32} (e : f_X12_image x h = some (v, h1)) : hK h x = some (.inl 11) := by
  unfold f_X12_image at e
  exact (ko_o e).1
theorem on_k {x : Nat} {h h1 : aH} {v : Int32} (e : f_X12_on x h = some (v, h1)) : hK h x = some (.inl 11) := by
  unfold f_X12_on at e
  exact (ko_o e).1
