set_option maxHeartbeats 4000000 in
set_option maxRecDepth 100000 in
theorem m_PR_beginsAt (l : Launch) (D : va_G) (cI cZ : ClassId) (pr : Nat) (nu : Nat) (xs : Nat) (ys : Nat) (be : Nat) (wh : Nat) (n : Int32) (fb : Nat → Int32) (k : Int32) (hn : n ≤ 1024) : MetR l y_PR_beginsAt w_PR_beginsAt { frames := 0, cells := 0, slots := 0, locals := 0 } D cI cZ [.ref pr, .int k] [(pr, .inr (2, [.ref nu, .ref xs, .ref ys, .ref be, .ref wh, .int n])), (be, .inl (cZ, 1024, .inl fb))] (fun r => r = bI (atB n fb k)) := by
  refine ofR (cc := c_PR_beginsAt) (maxL := 2) (ret := (some .boolean)) (by decide) rfl (Nat.le_of_ble_eq_true rfl) ?_
  intro p e s m args below meth c H hH0 hx hb hr hlocks hts hown hml ls hl hP hK hN
  have hown : s.vm.findClass R_PR = some m.cls := hown
  have hl : lv_has ls 2 [(0, .ref pr), (1, .int k)] := hl
  refine lv_iload_n hx hb d_PR_beginsAt_0 rfl (lv_at hl 1 rfl) ?_
  refine lv_if_lt (tgt := 25) hx hb d_PR_beginsAt_1 rfl (fun h1 => ?_) (fun h1 => ?_)
  · refine lv_iconst (v := 0) hx hb d_PR_beginsAt_25 (by decide) ?_
    exact W.zret (v := (bI false)) hx hb hr (nb_n _) (fun t ht hW => ⟨(bI false), rfl, by rw [atB, if_pos h1], ht.trans hH0.symm⟩) (fun _ h9 => absurd h9 List.not_mem_nil) d_PR_beginsAt_26
  · refine lv_iload_n hx hb d_PR_beginsAt_4 rfl (lv_at hl 1 rfl) ?_
    refine lv_aload_n hx hb d_PR_beginsAt_5 rfl (lv_at hl 0 rfl) ?_
    refine va_get (D := D) (ci := 2) (v := .int n) (C := R_PR) (T := T_PR) (N := 6) hx hb hts iw_PR hown hK hP 0 rfl rfl 5 (by decide) (hts _ k_180) (fun _ h9 => h9) rfl d_PR_beginsAt_6 ?_
    refine lv_icmp_ge (tgt := 25) hx hb d_PR_beginsAt_9 rfl (fun h9 => ?_) (fun h9 => ?_)
    · refine lv_iconst (v := 0) hx hb d_PR_beginsAt_25 (by decide) ?_
      exact W.zret (v := (bI false)) hx hb hr (nb_n _) (fun t ht hW => ⟨(bI false), rfl, by rw [atB, if_neg h1, if_pos h9], ht.trans hH0.symm⟩) (fun _ h9 => absurd h9 List.not_mem_nil) d_PR_beginsAt_26
    · refine lv_aload_n hx hb d_PR_beginsAt_12 rfl (lv_at hl 0 rfl) ?_
      refine va_get (D := D) (ci := 2) (v := .ref be) (C := R_PR) (T := T_PR) (N := 6) hx hb hts iw_PR hown hK hP 0 rfl rfl 3 (by decide) (hts _ k_178) (fun _ h9 => h9) rfl d_PR_beginsAt_13 ?_
      refine lv_iload_n hx hb d_PR_beginsAt_16 rfl (lv_at hl 1 rfl) ?_
      refine va_zald hx hb hK hP 1 1 rfl rfl (idx_in' h1 h9 hn) d_PR_beginsAt_17 ?_
      refine lv_if_eq (tgt := 25) hx hb d_PR_beginsAt_18 rfl (fun h18 => ?_) (fun h18 => ?_)
      · refine lv_iconst (v := 0) hx hb d_PR_beginsAt_25 (by decide) ?_
        exact W.zret (v := (bI false)) hx hb hr (nb_n _) (fun t ht hW => ⟨(bI false), rfl, by rw [atB, if_neg h1, if_neg h9, if_pos h18], ht.trans hH0.symm⟩) (fun _ h9 => absurd h9 List.not_mem_nil) d_PR_beginsAt_26
      · refine lv_iconst (v := 1) hx hb d_PR_beginsAt_21 (by decide) ?_
        refine lv_goto (tgt := 26) hx hb d_PR_beginsAt_22 rfl ?_
        exact W.zret (v := (bI true)) hx hb hr (nb_n _) (fun t ht hW => ⟨(bI true), rfl, by rw [atB, if_neg h1, if_neg h9, if_neg h18], ht.trans hH0.symm⟩) (fun _ h9 => absurd h9 List.not_mem_nil) d_PR_beginsAt_26
