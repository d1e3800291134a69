abbrev rmX2_requireStart : Room := { frames := 6, cells := 1, slots := 6, locals := 82 }
set_option maxHeartbeats 4000000 in
set_option maxRecDepth 100000 in
/-- the race has not begun -/
theorem mX2_requireStart (l : Launch) (D : va_G) (cI cT : ClassId) (hl9 : l.stackTraces = false) (sz : Nat) (r tr k1 k2 k3 ts : Nat) (ad : Nat → Nat → Nat) (n : Nat) (hn : n ≤ 6) (tick : Int32) (KF S U V : Nat → Int32) (T : Nat → TV) : MetOV l D cI cT yX2_requireStart wsX2_requireStart rmX2_requireStart [.ref r] ([(r, oR tr ts (ad 0 0) (ad 1 0) (nI n) tick), (tr, oK KF k1 k2 k3), (k1, aI cI 12 S), (k2, aI cI 12 U), (k3, aI cI 12 V), (ts, aQ cT 6 (tq ad n))] ++ blks cI ad T (n + 2)) ([(r, oR tr ts (ad 0 0) (ad 1 0) (nI n) tick), (tr, oK KF k1 k2 k3), (k1, aI cI 12 S), (k2, aI cI 12 U), (k3, aI cI 12 V), (ts, aQ cT 6 (tq ad n))] ++ blks cI ad T (n + 2)) (cStartR tick) 1 6 sz := by
  refine vx_ofW (cc := cX2_requireStart) (maxL := 1) (ret := none) (by decide) rfl ?_
  intro p e s m args below meth c s₁ B hml hex hv
  obtain ⟨⟨hargs, hsz, hP, hR0, hK, hN⟩, hXZ, hXS⟩ := hv
  subst hsz
  have hAO := hXS.2.2.2.2.1
  have hx := B.exec
  have hb := B.bytes
  have hr := B.returns
  have hts := atoms_spec (ws := wsX2_requireStart) B.pre
  have hown : s.vm.findClass RX2 = some m.cls := findClass_of_methodNamed B.named
  have hlocks := B.notSynchronized
  have hiX2 : ∀ w ∈ u_ws RX2 TX2 6, w ∈ wsX2_requireStart := by decide +kernel
  have he : entryFrame m args 1 = F0 m 0 ((lg_sl [.ref r] ++ List.replicate (1 - (lg_sl [.ref r]).length) Slot.unset).toArray) [] := by rw [hargs]; exact lg_entry_eq m _ _
  rw [he]
  change W p l e rmX2_requireStart s m args below meth c s.heap [] 0 0 (vx_MQ below (va_Qv (S := Unit) (fun _ => cStartR tick = none) (fun _ t => va_P D vwCl ([(r, oR tr ts (ad 0 0) (ad 1 0) (nI n) tick), (tr, oK KF k1 k2 k3), (k1, aI cI 12 S), (k2, aI cI 12 U), (k3, aI cI 12 V), (ts, aQ cT 6 (tq ad n))] ++ blks cI ad T (n + 2)) t.heap) (frA (List.map Prod.fst ([(r, oR tr ts (ad 0 0) (ad 1 0) (nI n) tick), (tr, oK KF k1 k2 k3), (k1, aI cI 12 S), (k2, aI cI 12 U), (k3, aI cI 12 V), (ts, aQ cT 6 (tq ad n))] ++ blks cI ad T (n + 2))) s.heap.size)) (XO D ([(r, oR tr ts (ad 0 0) (ad 1 0) (nI n) tick), (tr, oK KF k1 k2 k3), (k1, aI cI 12 S), (k2, aI cI 12 U), (k3, aI cI 12 V), (ts, aQ cT 6 (tq ad n))] ++ blks cI ad T (n + 2)) (fun E => cStartR tick = some E) (frA (List.map Prod.fst ([(r, oR tr ts (ad 0 0) (ad 1 0) (nI n) tick), (tr, oK KF k1 k2 k3), (k1, aI cI 12 S), (k2, aI cI 12 U), (k3, aI cI 12 V), (ts, aQ cT 6 (tq ad n))] ++ blks cI ad T (n + 2))) s.heap.size)) args s 1 6 (frA (List.map Prod.fst ([(r, oR tr ts (ad 0 0) (ad 1 0) (nI n) tick), (tr, oK KF k1 k2 k3), (k1, aI cI 12 S), (k2, aI cI 12 U), (k3, aI cI 12 V), (ts, aQ cT 6 (tq ad n))] ++ blks cI ad T (n + 2))) s.heap.size)) _
  obtain ⟨A, hAe⟩ : ∃ A, A = (frA (List.map Prod.fst ([(r, oR tr ts (ad 0 0) (ad 1 0) (nI n) tick), (tr, oK KF k1 k2 k3), (k1, aI cI 12 S), (k2, aI cI 12 U), (k3, aI cI 12 V), (ts, aQ cT 6 (tq ad n))] ++ blks cI ad T (n + 2))) s.heap.size) := ⟨_, rfl⟩
  rw [← hAe]
  have hXZ : XZ A s s.heap := by rw [hAe]; exact hXZ
  obtain ⟨Q, hQ⟩ : ∃ Q, Q = vx_MQ below (va_Qv (S := Unit) (fun _ => cStartR tick = none) (fun _ t => va_P D vwCl ([(r, oR tr ts (ad 0 0) (ad 1 0) (nI n) tick), (tr, oK KF k1 k2 k3), (k1, aI cI 12 S), (k2, aI cI 12 U), (k3, aI cI 12 V), (ts, aQ cT 6 (tq ad n))] ++ blks cI ad T (n + 2)) t.heap) A) (XO D ([(r, oR tr ts (ad 0 0) (ad 1 0) (nI n) tick), (tr, oK KF k1 k2 k3), (k1, aI cI 12 S), (k2, aI cI 12 U), (k3, aI cI 12 V), (ts, aQ cT 6 (tq ad n))] ++ blks cI ad T (n + 2)) (fun E => cStartR tick = some E) A) args s 1 6 A := ⟨_, rfl⟩
  rw [← hQ]
  have hl := lv_entry [.ref r] (n := 1) (Nat.le_of_ble_eq_true rfl)
  generalize (lg_sl [.ref r] ++ List.replicate (1 - (lg_sl [.ref r]).length) Slot.unset).toArray = ls at hl ⊢
  have hl : lv_has ls 1 [(0, .ref r)] := hl
  have hA0 : ∀ q ∈ List.map Prod.fst ([(r, oR tr ts (ad 0 0) (ad 1 0) (nI n) tick), (tr, oK KF k1 k2 k3), (k1, aI cI 12 S), (k2, aI cI 12 U), (k3, aI cI 12 V), (ts, aQ cT 6 (tq ad n))] ++ blks cI ad T (n + 2)), A q := by rw [hAe]; exact fun q h => Or.inl h
  have hA : ∀ q : Nat, s.heap.size ≤ q → A q := by rw [hAe]; exact fun q h => Or.inr h
  have hD : va_D A ([(r, oR tr ts (ad 0 0) (ad 1 0) (nI n) tick), (tr, oK KF k1 k2 k3), (k1, aI cI 12 S), (k2, aI cI 12 U), (k3, aI cI 12 V), (ts, aQ cT 6 (tq ad n))] ++ blks cI ad T (n + 2)) := sp_D (List.nodup_append.mp (show ((([(r, oR tr ts (ad 0 0) (ad 1 0) (nI n) tick), (tr, oK KF k1 k2 k3), (k1, aI cI 12 S), (k2, aI cI 12 U), (k3, aI cI 12 V), (ts, aQ cT 6 (tq ad n))] ++ blks cI ad T (n + 2)) : va_W).map Prod.fst ++ ([] : va_W).map Prod.fst).Nodup by rw [← List.map_append]; exact hN)).1 hA0
  have hN : (List.map Prod.fst (([(r, oR tr ts (ad 0 0) (ad 1 0) (nI n) tick), (tr, oK KF k1 k2 k3), (k1, aI cI 12 S), (k2, aI cI 12 U), (k3, aI cI 12 V), (ts, aQ cT 6 (tq ad n))] ++ blks cI ad T (n + 2)) ++ []) : List Nat).Nodup := hN
  have hS : va_S A s.heap s.heap [] := va_S.rf
  obtain ⟨H, hH0⟩ : ∃ H, H = s.heap := ⟨_, rfl⟩
  obtain ⟨locs, hlo⟩ : ∃ L : List Loc, L = [] := ⟨_, rfl⟩
  have hP : va_P D vwCl ([(r, oR tr ts (ad 0 0) (ad 1 0) (nI n) tick), (tr, oK KF k1 k2 k3), (k1, aI cI 12 S), (k2, aI cI 12 U), (k3, aI cI 12 V), (ts, aQ cT 6 (tq ad n))] ++ blks cI ad T (n + 2)) H := by rw [hH0]; exact hP
  have hS : va_S A s.heap H locs := by rw [hH0, hlo]; exact hS
  rw [show W p l e rmX2_requireStart s m args below meth c s.heap [] 0 0 Q (F0 m 0 ls []) = W p l e rmX2_requireStart s m args below meth c H locs 0 0 Q (F0 m 0 ls []) by rw [hH0, hlo]]
  clear hH0 hlo
  refine lv_aload_n hx hb dX2_requireStart_0 rfl (lv_at hl 0 rfl) ?_
  refine va_get (D := D) (ci := 2) (v := .int tick) (C := RX2) (T := TX2) (N := 6) hx hb hts hiX2 hown hK.1 hP 0 rfl rfl 5 (by decide) (hts (.fieldLink RX2 36 "SledgeRace" "tick" "I") (by decide +kernel)) (fun _ h9 => h9) rfl dX2_requireStart_1 ?_
  refine lv_if_eq (tgt := 17) hx hb dX2_requireStart_4 (by decide) (fun c4 => ?_) (fun c4 => ?_)
  · skip
    have hv9 : cStartR tick = none := by simp [cStartR, c4]
    have hP9 : va_P D vwCl ([(r, oR tr ts (ad 0 0) (ad 1 0) (nI n) tick), (tr, oK KF k1 k2 k3), (k1, aI cI 12 S), (k2, aI cI 12 U), (k3, aI cI 12 V), (ts, aQ cT 6 (tq ad n))] ++ blks cI ad T (n + 2)) H := hP
    subst hQ
    refine vx_ret (W.widen (k := 1) (n := 6) (Nat.le_of_ble_eq_true rfl) (Nat.le_of_ble_eq_true rfl) ?_)
    exact W.vret hx hb hr (fun t ht hW => ⟨⟨(), rfl, hv9, by show va_P D vwCl _ t.heap; rw [ht]; exact hP9⟩, hS.F ht⟩) hS.2.2 dX2_requireStart_17
  · skip
    subst hQ
    exact sp_throw (cls := xISE) (text := "the race has begun") (w := ([(r, oR tr ts (ad 0 0) (ad 1 0) (nI n) tick), (tr, oK KF k1 k2 k3), (k1, aI cI 12 S), (k2, aI cI 12 U), (k3, aI cI 12 V), (ts, aQ cT 6 (tq ad n))] ++ blks cI ad T (n + 2))) (res := fun E => cStartR tick = some E) hx hb hl9 hown sp_fit2 sp_fits (by decide) (hts (.classLink RX2 61 xISE) (by decide +kernel)) (hts (.initialized xISE) (by decide +kernel)) hXS.2.2.1 (fun w hw => hts w (by first | exact List.mem_cons_of_mem _ (List.mem_append_right _ hw) | exact List.mem_cons_of_mem _ (List.mem_append_left _ (List.mem_append_right _ hw)) | exact List.mem_cons_of_mem _ (List.mem_append_left _ (List.mem_append_left _ (List.mem_append_right _ hw))))) sp_ng2 sp_gw2 hXZ hXS hS hP (hl.1.trans hml.symm) dX2_requireStart_7 dX2_requireStart_10 dX2_requireStart_11 dX2_requireStart_13 dX2_requireStart_16 hex (Nat.le_of_ble_eq_true rfl) (Nat.le_of_ble_eq_true rfl) (Nat.le_of_ble_eq_true rfl) (Nat.le_of_ble_eq_true rfl) hlocks (Nat.le_of_ble_eq_true rfl) (Nat.le_of_ble_eq_true rfl) (show cStartR tick = some xISE from by simp [cStartR, c4])

abbrev rmX2_teamNumbered : Room := { frames := 6, cells := 1, slots := 6, locals := 82 }
set_option maxHeartbeats 4000000 in
set_option maxRecDepth 100000 in
/-- the team with a number -/
theorem mX2_teamNumbered (l : Launch) (D : va_G) (cI cT : ClassId) (hl9 : l.stackTraces = false) (sz : Nat) (r tr k1 k2 k3 ts : Nat) (ad : Nat → Nat → Nat) (n : Nat) (hn : n ≤ 6) (tick : Int32) (KF S U V : Nat → Int32) (T : Nat → TV) (x : Int32) : MetOR l D cI cT yX2_teamNumbered wsX2_teamNumbered rmX2_teamNumbered [.ref r, .int x] ([(r, oR tr ts (ad 0 0) (ad 1 0) (nI n) tick), (tr, oK KF k1 k2 k3), (k1, aI cI 12 S), (k2, aI cI 12 U), (k3, aI cI 12 V), (ts, aQ cT 6 (tq ad n))] ++ blks cI ad T (n + 2)) ([(r, oR tr ts (ad 0 0) (ad 1 0) (nI n) tick), (tr, oK KF k1 k2 k3), (k1, aI cI 12 S), (k2, aI cI 12 U), (k3, aI cI 12 V), (ts, aQ cT 6 (tq ad n))] ++ blks cI ad T (n + 2)) (cTeamR ad n x) 1 6 sz := by
  refine vx_ofW (cc := cX2_teamNumbered) (maxL := 3) (ret := (some (.object "SledgeRace$Team"))) (by decide) rfl ?_
  intro p e s m args below meth c s₁ B hml hex hv
  obtain ⟨⟨hargs, hsz, hP, hR0, hK, hN⟩, hXZ, hXS⟩ := hv
  subst hsz
  have hAO := hXS.2.2.2.2.1
  have hx := B.exec
  have hb := B.bytes
  have hr := B.returns
  have hts := atoms_spec (ws := wsX2_teamNumbered) B.pre
  have hown : s.vm.findClass RX2 = some m.cls := findClass_of_methodNamed B.named
  have hlocks := B.notSynchronized
  have hiX2 : ∀ w ∈ u_ws RX2 TX2 6, w ∈ wsX2_teamNumbered := by decide +kernel
  have he : entryFrame m args 3 = F0 m 0 ((lg_sl [.ref r, .int x] ++ List.replicate (3 - (lg_sl [.ref r, .int x]).length) Slot.unset).toArray) [] := by rw [hargs]; exact lg_entry_eq m _ _
  rw [he]
  change W p l e rmX2_teamNumbered s m args below meth c s.heap [] 0 0 (vx_MQ below (va_Qr (S := Unit) (fun _ => True) (fun _ q t => cTeamR ad n x = .inl q ∧ va_P D vwCl ([(r, oR tr ts (ad 0 0) (ad 1 0) (nI n) tick), (tr, oK KF k1 k2 k3), (k1, aI cI 12 S), (k2, aI cI 12 U), (k3, aI cI 12 V), (ts, aQ cT 6 (tq ad n))] ++ blks cI ad T (n + 2)) t.heap) (frA (List.map Prod.fst ([(r, oR tr ts (ad 0 0) (ad 1 0) (nI n) tick), (tr, oK KF k1 k2 k3), (k1, aI cI 12 S), (k2, aI cI 12 U), (k3, aI cI 12 V), (ts, aQ cT 6 (tq ad n))] ++ blks cI ad T (n + 2))) s.heap.size)) (XO D ([(r, oR tr ts (ad 0 0) (ad 1 0) (nI n) tick), (tr, oK KF k1 k2 k3), (k1, aI cI 12 S), (k2, aI cI 12 U), (k3, aI cI 12 V), (ts, aQ cT 6 (tq ad n))] ++ blks cI ad T (n + 2)) (fun E => cTeamR ad n x = .inr E) (frA (List.map Prod.fst ([(r, oR tr ts (ad 0 0) (ad 1 0) (nI n) tick), (tr, oK KF k1 k2 k3), (k1, aI cI 12 S), (k2, aI cI 12 U), (k3, aI cI 12 V), (ts, aQ cT 6 (tq ad n))] ++ blks cI ad T (n + 2))) s.heap.size)) args s 1 6 (frA (List.map Prod.fst ([(r, oR tr ts (ad 0 0) (ad 1 0) (nI n) tick), (tr, oK KF k1 k2 k3), (k1, aI cI 12 S), (k2, aI cI 12 U), (k3, aI cI 12 V), (ts, aQ cT 6 (tq ad n))] ++ blks cI ad T (n + 2))) s.heap.size)) _
  obtain ⟨A, hAe⟩ : ∃ A, A = (frA (List.map Prod.fst ([(r, oR tr ts (ad 0 0) (ad 1 0) (nI n) tick), (tr, oK KF k1 k2 k3), (k1, aI cI 12 S), (k2, aI cI 12 U), (k3, aI cI 12 V), (ts, aQ cT 6 (tq ad n))] ++ blks cI ad T (n + 2))) s.heap.size) := ⟨_, rfl⟩
  rw [← hAe]
  have hXZ : XZ A s s.heap := by rw [hAe]; exact hXZ
  obtain ⟨Q, hQ⟩ : ∃ Q, Q = vx_MQ below (va_Qr (S := Unit) (fun _ => True) (fun _ q t => cTeamR ad n x = .inl q ∧ va_P D vwCl ([(r, oR tr ts (ad 0 0) (ad 1 0) (nI n) tick), (tr, oK KF k1 k2 k3), (k1, aI cI 12 S), (k2, aI cI 12 U), (k3, aI cI 12 V), (ts, aQ cT 6 (tq ad n))] ++ blks cI ad T (n + 2)) t.heap) A) (XO D ([(r, oR tr ts (ad 0 0) (ad 1 0) (nI n) tick), (tr, oK KF k1 k2 k3), (k1, aI cI 12 S), (k2, aI cI 12 U), (k3, aI cI 12 V), (ts, aQ cT 6 (tq ad n))] ++ blks cI ad T (n + 2)) (fun E => cTeamR ad n x = .inr E) A) args s 1 6 A := ⟨_, rfl⟩
  rw [← hQ]
  have hl := lv_entry [.ref r, .int x] (n := 3) (Nat.le_of_ble_eq_true rfl)
  generalize (lg_sl [.ref r, .int x] ++ List.replicate (3 - (lg_sl [.ref r, .int x]).length) Slot.unset).toArray = ls at hl ⊢
  have hl : lv_has ls 3 [(0, .ref r), (1, .int x)] := hl
  have hA0 : ∀ q ∈ List.map Prod.fst ([(r, oR tr ts (ad 0 0) (ad 1 0) (nI n) tick), (tr, oK KF k1 k2 k3), (k1, aI cI 12 S), (k2, aI cI 12 U), (k3, aI cI 12 V), (ts, aQ cT 6 (tq ad n))] ++ blks cI ad T (n + 2)), A q := by rw [hAe]; exact fun q h => Or.inl h
  have hA : ∀ q : Nat, s.heap.size ≤ q → A q := by rw [hAe]; exact fun q h => Or.inr h
  have hD : va_D A ([(r, oR tr ts (ad 0 0) (ad 1 0) (nI n) tick), (tr, oK KF k1 k2 k3), (k1, aI cI 12 S), (k2, aI cI 12 U), (k3, aI cI 12 V), (ts, aQ cT 6 (tq ad n))] ++ blks cI ad T (n + 2)) := sp_D (List.nodup_append.mp (show ((([(r, oR tr ts (ad 0 0) (ad 1 0) (nI n) tick), (tr, oK KF k1 k2 k3), (k1, aI cI 12 S), (k2, aI cI 12 U), (k3, aI cI 12 V), (ts, aQ cT 6 (tq ad n))] ++ blks cI ad T (n + 2)) : va_W).map Prod.fst ++ ([] : va_W).map Prod.fst).Nodup by rw [← List.map_append]; exact hN)).1 hA0
  have hN : (List.map Prod.fst (([(r, oR tr ts (ad 0 0) (ad 1 0) (nI n) tick), (tr, oK KF k1 k2 k3), (k1, aI cI 12 S), (k2, aI cI 12 U), (k3, aI cI 12 V), (ts, aQ cT 6 (tq ad n))] ++ blks cI ad T (n + 2)) ++ []) : List Nat).Nodup := hN
  have hS : va_S A s.heap s.heap [] := va_S.rf
  obtain ⟨H, hH0⟩ : ∃ H, H = s.heap := ⟨_, rfl⟩
  obtain ⟨locs, hlo⟩ : ∃ L : List Loc, L = [] := ⟨_, rfl⟩
  have hP : va_P D vwCl ([(r, oR tr ts (ad 0 0) (ad 1 0) (nI n) tick), (tr, oK KF k1 k2 k3), (k1, aI cI 12 S), (k2, aI cI 12 U), (k3, aI cI 12 V), (ts, aQ cT 6 (tq ad n))] ++ blks cI ad T (n + 2)) H := by rw [hH0]; exact hP
  have hS : va_S A s.heap H locs := by rw [hH0, hlo]; exact hS
  rw [show W p l e rmX2_teamNumbered s m args below meth c s.heap [] 0 0 Q (F0 m 0 ls []) = W p l e rmX2_teamNumbered s m args below meth c H locs 0 0 Q (F0 m 0 ls []) by rw [hH0, hlo]]
  clear hH0 hlo
  refine lv_iload_n hx hb dX2_teamNumbered_0 rfl (lv_at hl 1 rfl) ?_
  refine lv_if_lt (tgt := 13) hx hb dX2_teamNumbered_1 (by decide) (fun c1 => ?_) (fun c1 => ?_)
  · skip
    subst hQ
    exact sp_throw (cls := xIOB) (text := "no such team") (w := ([(r, oR tr ts (ad 0 0) (ad 1 0) (nI n) tick), (tr, oK KF k1 k2 k3), (k1, aI cI 12 S), (k2, aI cI 12 U), (k3, aI cI 12 V), (ts, aQ cT 6 (tq ad n))] ++ blks cI ad T (n + 2))) (res := fun E => cTeamR ad n x = .inr E) hx hb hl9 hown sp_fit3 sp_fits (by decide) (hts (.classLink RX2 122 xIOB) (by decide +kernel)) (hts (.initialized xIOB) (by decide +kernel)) hXS.2.2.2.1 (fun w hw => hts w (by first | exact List.mem_cons_of_mem _ (List.mem_append_right _ hw) | exact List.mem_cons_of_mem _ (List.mem_append_left _ (List.mem_append_right _ hw)) | exact List.mem_cons_of_mem _ (List.mem_append_left _ (List.mem_append_left _ (List.mem_append_right _ hw))))) sp_ng3 sp_gw3 hXZ hXS hS hP (hl.1.trans hml.symm) dX2_teamNumbered_13 dX2_teamNumbered_16 dX2_teamNumbered_17 dX2_teamNumbered_19 dX2_teamNumbered_22 hex (Nat.le_of_ble_eq_true rfl) (Nat.le_of_ble_eq_true rfl) (Nat.le_of_ble_eq_true rfl) (Nat.le_of_ble_eq_true rfl) hlocks (Nat.le_of_ble_eq_true rfl) (Nat.le_of_ble_eq_true rfl) (show cTeamR ad n x = .inr xIOB from by unfold cTeamR; rw [isIn_neg c1]; rfl)
  · skip
    refine lv_iload_n hx hb dX2_teamNumbered_4 rfl (lv_at hl 1 rfl) ?_
    refine lv_aload_n hx hb dX2_teamNumbered_5 rfl (lv_at hl 0 rfl) ?_
    refine va_get (D := D) (ci := 2) (v := .ref ts) (C := RX2) (T := TX2) (N := 6) hx hb hts hiX2 hown hK.1 hP 0 rfl rfl 1 (by decide) (hts (.fieldLink RX2 18 "SledgeRace" "teams" "[LSledgeRace$Team;") (by decide +kernel)) (fun _ h9 => h9) rfl dX2_teamNumbered_6 ?_
    refine va_alen hx hb hK.1 hP 5 1 rfl rfl (v := nI 6) rfl dX2_teamNumbered_9 ?_
    refine lv_icmp_lt (tgt := 23) hx hb dX2_teamNumbered_10 (by decide) (fun c10 => ?_) (fun c10 => ?_)
    · skip
      obtain ⟨i, hi, rfl⟩ := nat_of (b := 6) (by decide) c1 c10
      refine lv_aload_n hx hb dX2_teamNumbered_23 rfl (lv_at hl 0 rfl) ?_
      refine va_get (D := D) (ci := 2) (v := .ref ts) (C := RX2) (T := TX2) (N := 6) hx hb hts hiX2 hown hK.1 hP 0 rfl rfl 1 (by decide) (hts (.fieldLink RX2 18 "SledgeRace" "teams" "[LSledgeRace$Team;") (by decide +kernel)) (fun _ h9 => h9) rfl dX2_teamNumbered_24 ?_
      refine lv_iload_n hx hb dX2_teamNumbered_27 rfl (lv_at hl 1 rfl) ?_
      refine sp_aald hx hb hK hP 5 rfl (by omega) (by decide) dX2_teamNumbered_28 (fun cin => ?_) (fun cin => ?_)
      · skip
        refine lv_astore_n (lv' := [(2, .ref (ad (i + 2) 0)), (0, .ref r), (1, .int (nI i))]) hx hb dX2_teamNumbered_29 rfl hl (by decide) rfl (fun ls hl => ?_)
        refine lv_aload_n hx hb dX2_teamNumbered_30 rfl (lv_at hl 0 rfl) ?_
        refine lv_ifnonnull (tgt := 44) hx hb dX2_teamNumbered_31 (by decide) ?_
        refine lv_aload_n hx hb dX2_teamNumbered_44 rfl (lv_at hl 0 rfl) ?_
        have hv9 : cTeamR ad n (nI i) = .inl (ad (i + 2) 0) := by unfold cTeamR; rw [isIn_lt (by omega) cin, nI_clamp (by omega)]; rfl
        have hP9 : va_P D vwCl ([(r, oR tr ts (ad 0 0) (ad 1 0) (nI n) tick), (tr, oK KF k1 k2 k3), (k1, aI cI 12 S), (k2, aI cI 12 U), (k3, aI cI 12 V), (ts, aQ cT 6 (tq ad n))] ++ blks cI ad T (n + 2)) H := hP
        subst hQ
        refine vx_ret (W.widen (k := 1) (n := 6) (Nat.le_of_ble_eq_true rfl) (Nat.le_of_ble_eq_true rfl) ?_)
        exact W.aret hx hb hr (Or.inl ⟨_, rfl⟩) (Or.inr ⟨_, rfl⟩) (fun t ht hW => ⟨⟨(), _, rfl, trivial, hv9, by show va_P D vwCl _ t.heap; rw [ht]; exact hP9⟩, hS.F ht⟩) hS.2.2 dX2_teamNumbered_45
      · skip
        refine lv_astore_nN (lv' := [(2, .null), (0, .ref r), (1, .int (nI i))]) hx hb dX2_teamNumbered_29 rfl hl (by decide) rfl (fun ls hl => ?_)
        refine lv_aload_nN hx hb dX2_teamNumbered_30 rfl (lv_at hl 0 rfl) ?_
        refine lv_ifnonnullN hx hb dX2_teamNumbered_31 ?_
        subst hQ
        exact sp_throw (cls := xIOB) (text := "no such team") (w := ([(r, oR tr ts (ad 0 0) (ad 1 0) (nI n) tick), (tr, oK KF k1 k2 k3), (k1, aI cI 12 S), (k2, aI cI 12 U), (k3, aI cI 12 V), (ts, aQ cT 6 (tq ad n))] ++ blks cI ad T (n + 2))) (res := fun E => cTeamR ad n (nI i) = .inr E) hx hb hl9 hown sp_fit3 sp_fits (by decide) (hts (.classLink RX2 122 xIOB) (by decide +kernel)) (hts (.initialized xIOB) (by decide +kernel)) hXS.2.2.2.1 (fun w hw => hts w (by first | exact List.mem_cons_of_mem _ (List.mem_append_right _ hw) | exact List.mem_cons_of_mem _ (List.mem_append_left _ (List.mem_append_right _ hw)) | exact List.mem_cons_of_mem _ (List.mem_append_left _ (List.mem_append_left _ (List.mem_append_right _ hw))))) sp_ng3 sp_gw3 hXZ hXS hS hP (hl.1.trans hml.symm) dX2_teamNumbered_34 dX2_teamNumbered_37 dX2_teamNumbered_38 dX2_teamNumbered_40 dX2_teamNumbered_43 hex (Nat.le_of_ble_eq_true rfl) (Nat.le_of_ble_eq_true rfl) (Nat.le_of_ble_eq_true rfl) (Nat.le_of_ble_eq_true rfl) hlocks (Nat.le_of_ble_eq_true rfl) (Nat.le_of_ble_eq_true rfl) (show cTeamR ad n (nI i) = .inr xIOB from by unfold cTeamR; rw [isIn_ge (by omega) (by omega) cin]; rfl)
    · skip
      subst hQ
      exact sp_throw (cls := xIOB) (text := "no such team") (w := ([(r, oR tr ts (ad 0 0) (ad 1 0) (nI n) tick), (tr, oK KF k1 k2 k3), (k1, aI cI 12 S), (k2, aI cI 12 U), (k3, aI cI 12 V), (ts, aQ cT 6 (tq ad n))] ++ blks cI ad T (n + 2))) (res := fun E => cTeamR ad n x = .inr E) hx hb hl9 hown sp_fit3 sp_fits (by decide) (hts (.classLink RX2 122 xIOB) (by decide +kernel)) (hts (.initialized xIOB) (by decide +kernel)) hXS.2.2.2.1 (fun w hw => hts w (by first | exact List.mem_cons_of_mem _ (List.mem_append_right _ hw) | exact List.mem_cons_of_mem _ (List.mem_append_left _ (List.mem_append_right _ hw)) | exact List.mem_cons_of_mem _ (List.mem_append_left _ (List.mem_append_left _ (List.mem_append_right _ hw))))) sp_ng3 sp_gw3 hXZ hXS hS hP (hl.1.trans hml.symm) dX2_teamNumbered_13 dX2_teamNumbered_16 dX2_teamNumbered_17 dX2_teamNumbered_19 dX2_teamNumbered_22 hex (Nat.le_of_ble_eq_true rfl) (Nat.le_of_ble_eq_true rfl) (Nat.le_of_ble_eq_true rfl) (Nat.le_of_ble_eq_true rfl) hlocks (Nat.le_of_ble_eq_true rfl) (Nat.le_of_ble_eq_true rfl) (show cTeamR ad n x = .inr xIOB from by unfold cTeamR; rw [isIn_big (b := 6) (by omega) (by decide) c10]; rfl)
