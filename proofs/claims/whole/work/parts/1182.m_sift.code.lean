def f_M_sift_71 (N : Nat) (iM20 : Int32) (iM28 : Int32) (iM36 : Int32) (iM64 : Int32) (iM65 : Int32) (aM15 : Nat → Int32) (aM16 : Nat → Int32) (aM17 : Nat → Int32) (aM19 : Nat → Int32) (aM29 : Nat → Int32) (aM57 : Nat → Int32) (aM58 : Nat → Int32) (aM59 : Nat → Int32) (aM60 : Nat → Int32) (aM61 : Nat → Int32) (aM62 : Nat → Int32) (aM63 : Nat → Int32) (k5 : Int32 → Int32 → (Nat → Int32) → (Nat → Int32) → Option (Int32 × Int32 × (Nat → Int32) × (Nat → Int32) × (Nat → Int32))) (v1 : Int32) (v2 : Int32) (v3 : Int32) (v4 : Int32) (s1 : Int32) (s2 : Int32) (x_aM61 : Nat → Int32) (x_aM62 : Nat → Int32) : Option (Int32 × Int32 × (Nat → Int32) × (Nat → Int32) × (Nat → Int32)) := if s1 < 0 ∨ 512 ≤ s1.toNatClampNeg then none else (k5 v3 ((v4 + (1 : Int32))) ((upd x_aM61 s1.toNatClampNeg s2)) x_aM62)
def f_M_sift_44 (N : Nat) (iM20 : Int32) (iM28 : Int32) (iM36 : Int32) (iM64 : Int32) (iM65 : Int32) (aM15 : Nat → Int32) (aM16 : Nat → Int32) (aM17 : Nat → Int32) (aM19 : Nat → Int32) (aM29 : Nat → Int32) (aM57 : Nat → Int32) (aM58 : Nat → Int32) (aM59 : Nat → Int32) (aM60 : Nat → Int32) (aM61 : Nat → Int32) (aM62 : Nat → Int32) (aM63 : Nat → Int32) (k5 : Int32 → Int32 → (Nat → Int32) → (Nat → Int32) → Option (Int32 × Int32 × (Nat → Int32) × (Nat → Int32) × (Nat → Int32))) (v1 : Int32) (v2 : Int32) (v4 : Int32) (s0 : Int32) (s1 : Int32) (x_aM61 : Nat → Int32) (x_aM62 : Nat → Int32) : Option (Int32 × Int32 × (Nat → Int32) × (Nat → Int32) × (Nat → Int32)) := if v2 = 0 then (k5 ((s0 + s1)) ((v4 + (1 : Int32))) x_aM61 x_aM62) else (if v4 < 0 ∨ 512 ≤ v4.toNatClampNeg then none else (if (x_aM62 v4.toNatClampNeg) = 0 then (f_M_sift_71 N iM20 iM28 iM36 iM64 iM65 aM15 aM16 aM17 aM19 aM29 aM57 aM58 aM59 aM60 aM61 aM62 aM63 k5 v1 v2 ((s0 + s1)) v4 v4 ((0 : Int32)) x_aM61 x_aM62) else (f_M_sift_71 N iM20 iM28 iM36 iM64 iM65 aM15 aM16 aM17 aM19 aM29 aM57 aM58 aM59 aM60 aM61 aM62 aM63 k5 v1 v2 ((s0 + s1)) v4 v4 ((-1 : Int32)) x_aM61 x_aM62)))
def f_M_sift_127 (N : Nat) (iM20 : Int32) (iM28 : Int32) (iM36 : Int32) (iM64 : Int32) (iM65 : Int32) (aM15 : Nat → Int32) (aM16 : Nat → Int32) (aM17 : Nat → Int32) (aM19 : Nat → Int32) (aM29 : Nat → Int32) (aM57 : Nat → Int32) (aM58 : Nat → Int32) (aM59 : Nat → Int32) (aM60 : Nat → Int32) (aM61 : Nat → Int32) (aM62 : Nat → Int32) (aM63 : Nat → Int32) (k84 : Int32 → Int32 → (Nat → Int32) → (Nat → Int32) → (Nat → Int32) → Option (Int32 × Int32 × (Nat → Int32) × (Nat → Int32) × (Nat → Int32))) (v2 : Int32) (v3 : Int32) (v4 : Int32) (x_aM63 : Nat → Int32) : Nat → Int32 → Int32 → (Nat → Int32) → (Nat → Int32) → Option (Int32 × Int32 × (Nat → Int32) × (Nat → Int32) × (Nat → Int32))
  | 0, _, _, _, _ => none
  | n + 1, v5, v6, x_aM61, x_aM62 => (f_M_types iM36).bind fun q130 => (if q130 ≤ v6 then (if v5 = 0 then (k84 ((v4 + (0 : Int32))) v5 x_aM61 x_aM62 x_aM63) else (k84 ((v4 + (1 : Int32))) v5 x_aM61 x_aM62 x_aM63)) else (if v6 < 0 ∨ 512 ≤ v6.toNatClampNeg then none else (if (x_aM63 v6.toNatClampNeg) = 0 then (f_M_sift_127 N iM20 iM28 iM36 iM64 iM65 aM15 aM16 aM17 aM19 aM29 aM57 aM58 aM59 aM60 aM61 aM62 aM63 k84 v2 v3 v4 x_aM63 n v5 ((v6 + (1 : Int32))) x_aM61 x_aM62) else ((f_M_isMet_stood N v6 iM28 iM36 aM29 aM58 aM59 aM60 x_aM63).bind fun q153 => (if q153 = 0 then (if v2 = 0 then (f_M_sift_127 N iM20 iM28 iM36 iM64 iM65 aM15 aM16 aM17 aM19 aM29 aM57 aM58 aM59 aM60 aM61 aM62 aM63 k84 v2 v3 v4 x_aM63 n ((1 : Int32)) ((v6 + (1 : Int32))) x_aM61 ((upd x_aM62 v6.toNatClampNeg (vp_nar .boolean ((0 : Int32)))))) else (f_M_sift_127 N iM20 iM28 iM36 iM64 iM65 aM15 aM16 aM17 aM19 aM29 aM57 aM58 aM59 aM60 aM61 aM62 aM63 k84 v2 v3 v4 x_aM63 n ((1 : Int32)) ((v6 + (1 : Int32))) ((upd x_aM61 v6.toNatClampNeg ((v4 + (1 : Int32))))) ((upd x_aM62 v6.toNatClampNeg (vp_nar .boolean ((0 : Int32))))))) else (f_M_sift_127 N iM20 iM28 iM36 iM64 iM65 aM15 aM16 aM17 aM19 aM29 aM57 aM58 aM59 aM60 aM61 aM62 aM63 k84 v2 v3 v4 x_aM63 n v5 ((v6 + (1 : Int32))) x_aM61 x_aM62))))))
def f_M_sift_95 (N : Nat) (iM20 : Int32) (iM28 : Int32) (iM36 : Int32) (iM64 : Int32) (iM65 : Int32) (aM15 : Nat → Int32) (aM16 : Nat → Int32) (aM17 : Nat → Int32) (aM19 : Nat → Int32) (aM29 : Nat → Int32) (aM57 : Nat → Int32) (aM58 : Nat → Int32) (aM59 : Nat → Int32) (aM60 : Nat → Int32) (aM61 : Nat → Int32) (aM62 : Nat → Int32) (aM63 : Nat → Int32) (k84 : Int32 → Int32 → (Nat → Int32) → (Nat → Int32) → (Nat → Int32) → Option (Int32 × Int32 × (Nat → Int32) × (Nat → Int32) × (Nat → Int32))) (v2 : Int32) (v3 : Int32) (v4 : Int32) (v5 : Int32) (x_aM61 : Nat → Int32) (x_aM62 : Nat → Int32) : Nat → Int32 → (Nat → Int32) → Option (Int32 × Int32 × (Nat → Int32) × (Nat → Int32) × (Nat → Int32))
  | 0, _, _ => none
  | n + 1, v6, x_aM63 => (f_M_types iM36).bind fun q98 => (if q98 ≤ v6 then (f_M_sift_127 N iM20 iM28 iM36 iM64 iM65 aM15 aM16 aM17 aM19 aM29 aM57 aM58 aM59 aM60 aM61 aM62 aM63 k84 v2 v3 v4 x_aM63 N v5 ((0 : Int32)) x_aM61 x_aM62) else (if v6 < 0 ∨ 512 ≤ v6.toNatClampNeg then none else (f_M_sift_95 N iM20 iM28 iM36 iM64 iM65 aM15 aM16 aM17 aM19 aM29 aM57 aM58 aM59 aM60 aM61 aM62 aM63 k84 v2 v3 v4 v5 x_aM61 x_aM62 n ((v6 + (1 : Int32))) ((upd x_aM63 v6.toNatClampNeg (vp_nar .boolean ((x_aM62 v6.toNatClampNeg))))))))
def f_M_sift_84 (N : Nat) (iM20 : Int32) (iM28 : Int32) (iM36 : Int32) (iM64 : Int32) (iM65 : Int32) (aM15 : Nat → Int32) (aM16 : Nat → Int32) (aM17 : Nat → Int32) (aM19 : Nat → Int32) (aM29 : Nat → Int32) (aM57 : Nat → Int32) (aM58 : Nat → Int32) (aM59 : Nat → Int32) (aM60 : Nat → Int32) (aM61 : Nat → Int32) (aM62 : Nat → Int32) (aM63 : Nat → Int32) (v2 : Int32) (v3 : Int32) : Nat → Int32 → Int32 → (Nat → Int32) → (Nat → Int32) → (Nat → Int32) → Option (Int32 × Int32 × (Nat → Int32) × (Nat → Int32) × (Nat → Int32))
  | 0, _, _, _, _, _ => none
  | n + 1, v4, v5, x_aM61, x_aM62, x_aM63 => if v5 = 0 then (if v2 = 0 then (some (iM64, iM65, x_aM61, x_aM62, x_aM63)) else (some (v3, v4, x_aM61, x_aM62, x_aM63))) else (f_M_sift_95 N iM20 iM28 iM36 iM64 iM65 aM15 aM16 aM17 aM19 aM29 aM57 aM58 aM59 aM60 aM61 aM62 aM63 (f_M_sift_84 N iM20 iM28 iM36 iM64 iM65 aM15 aM16 aM17 aM19 aM29 aM57 aM58 aM59 aM60 aM61 aM62 aM63 v2 v3 n) v2 v3 v4 ((0 : Int32)) x_aM61 x_aM62 N ((0 : Int32)) x_aM63)
def f_M_sift_5 (N : Nat) (iM20 : Int32) (iM28 : Int32) (iM36 : Int32) (iM64 : Int32) (iM65 : Int32) (aM15 : Nat → Int32) (aM16 : Nat → Int32) (aM17 : Nat → Int32) (aM19 : Nat → Int32) (aM29 : Nat → Int32) (aM57 : Nat → Int32) (aM58 : Nat → Int32) (aM59 : Nat → Int32) (aM60 : Nat → Int32) (aM61 : Nat → Int32) (aM62 : Nat → Int32) (aM63 : Nat → Int32) (v1 : Int32) (v2 : Int32) : Nat → Int32 → Int32 → (Nat → Int32) → (Nat → Int32) → Option (Int32 × Int32 × (Nat → Int32) × (Nat → Int32) × (Nat → Int32))
  | 0, _, _, _, _ => none
  | n + 1, v3, v4, x_aM61, x_aM62 => (f_M_types iM36).bind fun q8 => (if q8 ≤ v4 then (f_M_sift_84 N iM20 iM28 iM36 iM64 iM65 aM15 aM16 aM17 aM19 aM29 aM57 aM58 aM59 aM60 aM61 aM62 aM63 v2 v3 N ((0 : Int32)) ((1 : Int32)) x_aM61 x_aM62 aM63) else ((f_M_isFair N v4 v1 iM20 aM15 aM16 aM17 aM19 aM57).bind fun q24 => (if v4 < 0 ∨ 512 ≤ v4.toNatClampNeg then none else (if (((upd x_aM62 v4.toNatClampNeg (vp_nar .boolean q24))) v4.toNatClampNeg) = 0 then (f_M_sift_44 N iM20 iM28 iM36 iM64 iM65 aM15 aM16 aM17 aM19 aM29 aM57 aM58 aM59 aM60 aM61 aM62 aM63 (f_M_sift_5 N iM20 iM28 iM36 iM64 iM65 aM15 aM16 aM17 aM19 aM29 aM57 aM58 aM59 aM60 aM61 aM62 aM63 v1 v2 n) v1 v2 v4 v3 ((0 : Int32)) x_aM61 ((upd x_aM62 v4.toNatClampNeg (vp_nar .boolean q24)))) else (f_M_sift_44 N iM20 iM28 iM36 iM64 iM65 aM15 aM16 aM17 aM19 aM29 aM57 aM58 aM59 aM60 aM61 aM62 aM63 (f_M_sift_5 N iM20 iM28 iM36 iM64 iM65 aM15 aM16 aM17 aM19 aM29 aM57 aM58 aM59 aM60 aM61 aM62 aM63 v1 v2 n) v1 v2 v4 v3 ((1 : Int32)) x_aM61 ((upd x_aM62 v4.toNatClampNeg (vp_nar .boolean q24))))))))
def f_M_sift (N : Nat) (a1 : Int32) (a2 : Int32) (iM20 : Int32) (iM28 : Int32) (iM36 : Int32) (iM64 : Int32) (iM65 : Int32) (aM15 : Nat → Int32) (aM16 : Nat → Int32) (aM17 : Nat → Int32) (aM19 : Nat → Int32) (aM29 : Nat → Int32) (aM57 : Nat → Int32) (aM58 : Nat → Int32) (aM59 : Nat → Int32) (aM60 : Nat → Int32) (aM61 : Nat → Int32) (aM62 : Nat → Int32) (aM63 : Nat → Int32) : Option (Int32 × Int32 × (Nat → Int32) × (Nat → Int32) × (Nat → Int32)) := f_M_sift_5 N iM20 iM28 iM36 iM64 iM65 aM15 aM16 aM17 aM19 aM29 aM57 aM58 aM59 aM60 aM61 aM62 aM63 a1 a2 N ((0 : Int32)) ((0 : Int32)) aM61 aM62
set_option maxHeartbeats 8000000 in
set_option maxRecDepth 100000 in
theorem c_M_sift (l : Launch) (dC : Nat → ClassId) (dI : Nat → Nat → Nat) (cy : Nat → ClassId) (ad : Nat → Nat) (sz : Nat) (N : Nat) (a1 : Int32) (a2 : Int32) (iM : Nat → Int32) (aM : Nat → Nat → Int32) (q : Int32 × Int32 × (Nat → Int32) × (Nat → Int32) × (Nat → Int32)) (h : f_M_sift N a1 a2 (iM 20) (iM 28) (iM 36) (iM 64) (iM 65) (aM 15) (aM 16) (aM 17) (aM 19) (aM 29) (aM 57) (aM 58) (aM 59) (aM 60) (aM 61) (aM 62) (aM 63) = some q) : Met l yX8_sift wsX8_sift ({ frames := 3, cells := 0, slots := 0, locals := 74 } : Room) (cP (dC, dI) cy [.ref (ad 0), .int a1, .int a2] (zzM ad cy iM aM) sz) (cQv (dC, dI) cy (zzM ad cy (us iM [(64, q.1), (65, q.2.1)]) (us aM [(61, q.2.2.1), (62, q.2.2.2.1), (63, q.2.2.2.2)])) (va_A (zzM ad cy iM aM) sz)) 0 0 (va_A (zzM ad cy iM aM) sz) := by
  refine Met.ofW (cc := cX8_sift) (maxL := 7) (ret := none) (by decide) rfl ?_
  intro p e s m args below meth c s₁ B hml hv
  obtain ⟨hav, hsz, hP, hK, hD0, hN⟩ := hv
  have hx := B.exec
  have hb := B.bytes
  have hr := B.returns
  have hts := atoms_spec (ws := wsX8_sift) B.pre
  have hown : s.vm.findClass RX8 = some m.cls := findClass_of_methodNamed B.named
  have hlocks := B.notSynchronized
  subst hsz
  have hD := hD0.self (sz := s.heap.size)
  generalize hAe : va_A (zzM ad cy iM aM) s.heap.size = A at hD ⊢
  have hA : ∀ q : Nat, s.heap.size ≤ q → A q := fun q h => by rw [← hAe]; exact Or.inr h
  have hS : va_S A s.heap s.heap [] := va_S.rf
  generalize hWQ : (zzM ad cy (us iM [(64, q.1), (65, q.2.1)]) (us aM [(61, q.2.2.1), (62, q.2.2.2.1), (63, q.2.2.2.2)])) = WQ
  generalize hQQ : MQ below (cQv (dC, dI) cy WQ A) args s 0 0 A = QQ
  have hl := lv_entry ([.ref (ad 0), .int a1, .int a2] : List Value) (n := 7) (Nat.le_of_ble_eq_true rfl)
  have hfr := lg_entry_eq m ([.ref (ad 0), .int a1, .int a2] : List Value) 7
  rw [← hav] at hfr
  rw [hfr]
  clear hfr hav
  generalize (lg_sl ([.ref (ad 0), .int a1, .int a2] : List Value) ++ List.replicate (7 - (lg_sl ([.ref (ad 0), .int a1, .int a2] : List Value)).length) Slot.unset).toArray = ls at hl ⊢
  have hl : lv_has ls 7 [(0, .ref (ad 0)), (1, .int a1), (2, .int a2)] := hl
  have kf114 := hts _ (List.mem_cons_of_mem _ m_fl_X8_114)
  have ki8 := (fun w h => List.mem_cons_of_mem _ (i_X8 w h) : ∀ w ∈ u_ws RX8 TX8 78, w ∈ wsX8_sift)
  have kf117 := hts _ (List.mem_cons_of_mem _ m_fl_X8_117)
  have kf120 := hts _ (List.mem_cons_of_mem _ m_fl_X8_120)
  have kf389 := hts _ (List.mem_cons_of_mem _ m_fl_X8_389)
  have kf392 := hts _ (List.mem_cons_of_mem _ m_fl_X8_392)
  refine (?_ : ∀ (H : Heap) (locs : List Loc), va_P (dC, dI) vwCl (zzM ad cy iM aM) H → va_D A (zzM ad cy iM aM) → va_S A s.heap H locs → W p l e ({ frames := 3, cells := 0, slots := 0, locals := 74 } : Room) s m args below meth c H locs 0 0 QQ (F0 m 0 ls [])) s.heap [] hP hD hS
  clear hP hD hS
  have B71 : ∀ (v1 : Int32) (v2 : Int32) (v3 : Int32) (v4 : Int32) (s1 : Int32) (s2 : Int32) (x_aM61 : Nat → Int32) (x_aM62 : Nat → Int32) (k5 : Int32 → Int32 → (Nat → Int32) → (Nat → Int32) → Option (Int32 × Int32 × (Nat → Int32) × (Nat → Int32) × (Nat → Int32))) (hk5 : ∀ (v3' : Int32) (v4' : Int32) (x_aM61' : Nat → Int32) (x_aM62' : Nat → Int32) (H : Heap) (locs : List Loc) (ls : Array Slot), k5 v3' v4' x_aM61' x_aM62' = some q → va_P (dC, dI) vwCl (zzM ad cy iM (us aM [(61, x_aM61'), (62, x_aM62')])) H → va_D A (zzM ad cy iM (us aM [(61, x_aM61'), (62, x_aM62')])) → va_S A s.heap H locs → lv_has ls 7 [(0, .ref (ad 0)), (1, .int v1), (2, .int v2), (3, .int v3'), (4, .int v4')] → W p l e ({ frames := 3, cells := 0, slots := 0, locals := 74 } : Room) s m args below meth c H locs 0 0 QQ (F0 m 5 ls [])) (H : Heap) (locs : List Loc) (ls : Array Slot), f_M_sift_71 N (iM 20) (iM 28) (iM 36) (iM 64) (iM 65) (aM 15) (aM 16) (aM 17) (aM 19) (aM 29) (aM 57) (aM 58) (aM 59) (aM 60) (aM 61) (aM 62) (aM 63) k5 v1 v2 v3 v4 s1 s2 x_aM61 x_aM62 = some q → va_P (dC, dI) vwCl (zzM ad cy iM (us aM [(61, x_aM61), (62, x_aM62)])) H → va_D A (zzM ad cy iM (us aM [(61, x_aM61), (62, x_aM62)])) → va_S A s.heap H locs → lv_has ls 7 [(0, .ref (ad 0)), (1, .int v1), (2, .int v2), (3, .int v3), (4, .int v4)] → W p l e ({ frames := 3, cells := 0, slots := 0, locals := 74 } : Room) s m args below meth c H locs 0 0 QQ (F0 m 71 ls [.int s2, .int s1, .ref (ad 33)]) := by
    intro v1 v2 v3 v4 s1 s2 x_aM61 x_aM62 k5 hk5 H locs ls h hP hD hS hl
    unfold f_M_sift_71 at h
    obtain ⟨g_31, h⟩ := g_n h
    refine va_iast (f := x_aM61) hx hb hK hP hD hS 33 0 rfl rfl g_31 dX8_sift_71 (fun H locs hP hD hS => ?_)
    have hP : va_P (dC, dI) vwCl (zzM ad cy iM (us aM [(61, (upd x_aM61 s1.toNatClampNeg s2)), (62, x_aM62)])) H := Eq.mp (congrArg (fun w => va_P (dC, dI) vwCl w H) (stM_aM61 ad cy iM aM [(61, x_aM61), (62, x_aM62)] ((upd x_aM61 s1.toNatClampNeg s2)))) hP
    have hD : va_D A (zzM ad cy iM (us aM [(61, (upd x_aM61 s1.toNatClampNeg s2)), (62, x_aM62)])) := Eq.mp (congrArg (fun w => va_D A w) (stM_aM61 ad cy iM aM [(61, x_aM61), (62, x_aM62)] ((upd x_aM61 s1.toNatClampNeg s2)))) hD
    refine lv_iinc (v := (v4 + (1 : Int32))) (lv' := [(4, .int ((v4 + (1 : Int32)))), (0, .ref (ad 0)), (1, .int v1), (2, .int v2), (3, .int v3)]) hx hb dX8_sift_72 hl (k := 4) rfl rfl (by decide) rfl (fun ls hl => ?_)
    refine lv_goto (tgt := 5) hx hb dX8_sift_75 (by decide) ?_
    exact hk5 v3 ((v4 + (1 : Int32))) ((upd x_aM61 s1.toNatClampNeg s2)) x_aM62 H locs ls h hP hD hS (lv_sub hl [1, 2, 3, 4, 0] rfl)
  have B44 : ∀ (v1 : Int32) (v2 : Int32) (v4 : Int32) (s0 : Int32) (s1 : Int32) (x_aM61 : Nat → Int32) (x_aM62 : Nat → Int32) (k5 : Int32 → Int32 → (Nat → Int32) → (Nat → Int32) → Option (Int32 × Int32 × (Nat → Int32) × (Nat → Int32) × (Nat → Int32))) (hk5 : ∀ (v3' : Int32) (v4' : Int32) (x_aM61' : Nat → Int32) (x_aM62' : Nat → Int32) (H : Heap) (locs : List Loc) (ls : Array Slot), k5 v3' v4' x_aM61' x_aM62' = some q → va_P (dC, dI) vwCl (zzM ad cy iM (us aM [(61, x_aM61'), (62, x_aM62')])) H → va_D A (zzM ad cy iM (us aM [(61, x_aM61'), (62, x_aM62')])) → va_S A s.heap H locs → lv_has ls 7 [(0, .ref (ad 0)), (1, .int v1), (2, .int v2), (3, .int v3'), (4, .int v4')] → W p l e ({ frames := 3, cells := 0, slots := 0, locals := 74 } : Room) s m args below meth c H locs 0 0 QQ (F0 m 5 ls [])) (H : Heap) (locs : List Loc) (ls : Array Slot), f_M_sift_44 N (iM 20) (iM 28) (iM 36) (iM 64) (iM 65) (aM 15) (aM 16) (aM 17) (aM 19) (aM 29) (aM 57) (aM 58) (aM 59) (aM 60) (aM 61) (aM 62) (aM 63) k5 v1 v2 v4 s0 s1 x_aM61 x_aM62 = some q → va_P (dC, dI) vwCl (zzM ad cy iM (us aM [(61, x_aM61), (62, x_aM62)])) H → va_D A (zzM ad cy iM (us aM [(61, x_aM61), (62, x_aM62)])) → va_S A s.heap H locs → lv_has ls 7 [(0, .ref (ad 0)), (1, .int v1), (2, .int v2), (4, .int v4)] → W p l e ({ frames := 3, cells := 0, slots := 0, locals := 74 } : Room) s m args below meth c H locs 0 0 QQ (F0 m 44 ls [.int s1, .int s0]) := by
    intro v1 v2 v4 s0 s1 x_aM61 x_aM62 k5 hk5 H locs ls h hP hD hS hl
    unfold f_M_sift_44 at h
    refine lv_iadd hx hb dX8_sift_44 ?_
    refine lv_istore_n (lv' := [(3, .int ((s0 + s1))), (0, .ref (ad 0)), (1, .int v1), (2, .int v2), (4, .int v4)]) hx hb dX8_sift_45 rfl hl (by decide) rfl (fun ls hl => ?_)
    refine lv_iload_n hx hb dX8_sift_46 rfl (lv_at hl 3 rfl) ?_
    refine lv_if_eq (tgt := 72) hx hb dX8_sift_47 (by decide) (fun cz => ?_) (fun cz => ?_)
    · have h := g_t h cz
      refine lv_iinc (v := (v4 + (1 : Int32))) (lv' := [(4, .int ((v4 + (1 : Int32)))), (3, .int ((s0 + s1))), (0, .ref (ad 0)), (1, .int v1), (2, .int v2)]) hx hb dX8_sift_72 hl (k := 4) rfl rfl (by decide) rfl (fun ls hl => ?_)
      refine lv_goto (tgt := 5) hx hb dX8_sift_75 (by decide) ?_
      exact hk5 ((s0 + s1)) ((v4 + (1 : Int32))) x_aM61 x_aM62 H locs ls h hP hD hS (lv_sub hl [2, 3, 4, 1, 0] rfl)
    · have h := g_f h cz
      refine lv_aload_n hx hb dX8_sift_50 rfl (lv_at hl 1 rfl) ?_
      refine va_get (D := (dC, dI)) (ci := 8) (v := .ref (ad 33)) (C := RX8) (T := TX8) (N := 78) hx hb hts ki8 hown hK hP 0 rfl rfl 61 (by decide) kf114 (fun _ h9 => h9) rfl dX8_sift_51 ?_
      refine lv_iload hx hb dX8_sift_54 (lv_at hl 4 rfl) ?_
      refine lv_aload_n hx hb dX8_sift_56 rfl (lv_at hl 1 rfl) ?_
      refine va_get (D := (dC, dI)) (ci := 8) (v := .ref (ad 34)) (C := RX8) (T := TX8) (N := 78) hx hb hts ki8 hown hK hP 0 rfl rfl 62 (by decide) kf117 (fun _ h9 => h9) rfl dX8_sift_57 ?_
      refine lv_iload hx hb dX8_sift_60 (lv_at hl 4 rfl) ?_
      obtain ⟨g_28, h⟩ := g_n h
      refine va_zald (f := x_aM62) hx hb hK hP 34 4 rfl rfl g_28 dX8_sift_62 ?_
      refine lv_if_eq (tgt := 70) hx hb dX8_sift_63 (by decide) (fun cz => ?_) (fun cz => ?_)
      · have h := g_t h cz
        refine lv_iconst (v := 0) hx hb dX8_sift_70 (by decide) ?_
        exact B71 v1 v2 ((s0 + s1)) v4 v4 ((0 : Int32)) x_aM61 x_aM62 k5 hk5 H locs ls h hP hD hS (lv_sub hl [1, 2, 3, 0, 4] rfl)
      · have h := g_f h cz
        refine lv_iconst (v := (-1)) hx hb dX8_sift_66 (by decide) ?_
        refine lv_goto (tgt := 71) hx hb dX8_sift_67 (by decide) ?_
        exact B71 v1 v2 ((s0 + s1)) v4 v4 ((-1 : Int32)) x_aM61 x_aM62 k5 hk5 H locs ls h hP hD hS (lv_sub hl [1, 2, 3, 0, 4] rfl)
  have B127 : ∀ (n : Nat) (v2 : Int32) (v3 : Int32) (v4 : Int32) (x_aM63 : Nat → Int32) (k84 : Int32 → Int32 → (Nat → Int32) → (Nat → Int32) → (Nat → Int32) → Option (Int32 × Int32 × (Nat → Int32) × (Nat → Int32) × (Nat → Int32))) (hk84 : ∀ (v4' : Int32) (v5' : Int32) (x_aM61' : Nat → Int32) (x_aM62' : Nat → Int32) (x_aM63' : Nat → Int32) (H : Heap) (locs : List Loc) (ls : Array Slot), k84 v4' v5' x_aM61' x_aM62' x_aM63' = some q → va_P (dC, dI) vwCl (zzM ad cy iM (us aM [(61, x_aM61'), (62, x_aM62'), (63, x_aM63')])) H → va_D A (zzM ad cy iM (us aM [(61, x_aM61'), (62, x_aM62'), (63, x_aM63')])) → va_S A s.heap H locs → lv_has ls 7 [(0, .ref (ad 0)), (2, .int v2), (3, .int v3), (4, .int v4'), (5, .int v5')] → W p l e ({ frames := 3, cells := 0, slots := 0, locals := 74 } : Room) s m args below meth c H locs 0 0 QQ (F0 m 84 ls [])) (v5 : Int32) (v6 : Int32) (x_aM61 : Nat → Int32) (x_aM62 : Nat → Int32) (H : Heap) (locs : List Loc) (ls : Array Slot), f_M_sift_127 N (iM 20) (iM 28) (iM 36) (iM 64) (iM 65) (aM 15) (aM 16) (aM 17) (aM 19) (aM 29) (aM 57) (aM 58) (aM 59) (aM 60) (aM 61) (aM 62) (aM 63) k84 v2 v3 v4 x_aM63 n v5 v6 x_aM61 x_aM62 = some q → va_P (dC, dI) vwCl (zzM ad cy iM (us aM [(61, x_aM61), (62, x_aM62), (63, x_aM63)])) H → va_D A (zzM ad cy iM (us aM [(61, x_aM61), (62, x_aM62), (63, x_aM63)])) → va_S A s.heap H locs → lv_has ls 7 [(0, .ref (ad 0)), (2, .int v2), (3, .int v3), (4, .int v4), (5, .int v5), (6, .int v6)] → W p l e ({ frames := 3, cells := 0, slots := 0, locals := 74 } : Room) s m args below meth c H locs 0 0 QQ (F0 m 127 ls []) := by
    intro n
    induction n with
    | zero =>
      intro v2 v3 v4 x_aM63 k84 hk84 v5 v6 x_aM61 x_aM62 H locs ls h hP hD hS hl
      rw [f_M_sift_127] at h
      cases h
    | succ n ih =>
      intro v2 v3 v4 x_aM63 k84 hk84 v5 v6 x_aM61 x_aM62 H locs ls h hP hD hS hl
      rw [f_M_sift_127] at h
      refine lv_iload hx hb dX8_sift_127 (lv_at hl 5 rfl) ?_
      refine lv_aload_n hx hb dX8_sift_129 rfl (lv_at hl 0 rfl) ?_
      obtain ⟨q130, e130, h⟩ := g_b h
      refine callVis (cc := cX8_sift) (w1 := zzM ad cy iM (us aM [(61, x_aM61), (62, x_aM62), (63, x_aM63)])) (As := []) (rest := [.int v6]) ⟨hx, hb, hml, hown, hts⟩ (c_M_types l dC dI cy ad H.size iM ((us aM [(61, x_aM61), (62, x_aM62), (63, x_aM63)])) q130 e130) (cwV 0 hts (goodV m_ml_X8_368 m_im_X8_types m_se_X8_types m_in_X8 m_cd_X8_types) rfl rfl rfl (by decide +kernel) ⟨Nat.le_of_ble_eq_true rfl, Nat.le_of_ble_eq_true rfl⟩) hN hK hP hD hS hA rfl 0 rfl rfl rfl hl.1 rfl (Nat.le_of_ble_eq_true rfl) dX8_sift_130 ⟨Nat.zero_le _, Nat.zero_le _⟩ (fun H locs hP hD hS => ?_)
      refine lv_icmp_ge (tgt := 191) hx hb dX8_sift_133 (by decide) (fun cz => ?_) (fun cz => ?_)
      · have h := g_t h cz
        refine lv_iload hx hb dX8_sift_191 (lv_at hl 3 rfl) ?_
        refine lv_iload hx hb dX8_sift_193 (lv_at hl 4 rfl) ?_
        refine lv_if_eq (tgt := 202) hx hb dX8_sift_195 (by decide) (fun cz => ?_) (fun cz => ?_)
        · have h := g_t h cz
          refine lv_iconst (v := 0) hx hb dX8_sift_202 (by decide) ?_
          refine lv_iadd hx hb dX8_sift_203 ?_
          refine lv_istore (lv' := [(4, .int ((v4 + (0 : Int32)))), (0, .ref (ad 0)), (2, .int v2), (3, .int v3), (5, .int v5), (6, .int v6)]) hx hb dX8_sift_204 hl (by decide) rfl (fun ls hl => ?_)
          refine lv_goto (tgt := 84) hx hb dX8_sift_206 (by decide) ?_
          exact hk84 ((v4 + (0 : Int32))) v5 x_aM61 x_aM62 x_aM63 H locs ls h hP hD hS (lv_sub hl [1, 2, 3, 0, 4] rfl)
        · have h := g_f h cz
          refine lv_iconst (v := 1) hx hb dX8_sift_198 (by decide) ?_
          refine lv_goto (tgt := 203) hx hb dX8_sift_199 (by decide) ?_
          refine lv_iadd hx hb dX8_sift_203 ?_
          refine lv_istore (lv' := [(4, .int ((v4 + (1 : Int32)))), (0, .ref (ad 0)), (2, .int v2), (3, .int v3), (5, .int v5), (6, .int v6)]) hx hb dX8_sift_204 hl (by decide) rfl (fun ls hl => ?_)
          refine lv_goto (tgt := 84) hx hb dX8_sift_206 (by decide) ?_
          exact hk84 ((v4 + (1 : Int32))) v5 x_aM61 x_aM62 x_aM63 H locs ls h hP hD hS (lv_sub hl [1, 2, 3, 0, 4] rfl)
      · have h := g_f h cz
        refine lv_aload_n hx hb dX8_sift_136 rfl (lv_at hl 0 rfl) ?_
        refine va_get (D := (dC, dI)) (ci := 8) (v := .ref (ad 35)) (C := RX8) (T := TX8) (N := 78) hx hb hts ki8 hown hK hP 0 rfl rfl 63 (by decide) kf120 (fun _ h9 => h9) rfl dX8_sift_137 ?_
        refine lv_iload hx hb dX8_sift_140 (lv_at hl 5 rfl) ?_
        obtain ⟨g_114, h⟩ := g_n h
        refine va_zald (f := x_aM63) hx hb hK hP 35 4 rfl rfl g_114 dX8_sift_142 ?_
        refine lv_if_eq (tgt := 185) hx hb dX8_sift_143 (by decide) (fun cz => ?_) (fun cz => ?_)
        · have h := g_t h cz
          refine lv_iinc (v := (v6 + (1 : Int32))) (lv' := [(6, .int ((v6 + (1 : Int32)))), (0, .ref (ad 0)), (2, .int v2), (3, .int v3), (4, .int v4), (5, .int v5)]) hx hb dX8_sift_185 hl (k := 5) rfl rfl (by decide) rfl (fun ls hl => ?_)
          refine lv_goto (tgt := 127) hx hb dX8_sift_188 (by decide) ?_
          exact ih v2 v3 v4 x_aM63 k84 hk84 v5 ((v6 + (1 : Int32))) x_aM61 x_aM62 H locs ls h hP hD hS (lv_sub hl [1, 2, 3, 4, 5, 0] rfl)
        · have h := g_f h cz
          refine lv_aload_n hx hb dX8_sift_146 rfl (lv_at hl 0 rfl) ?_
          refine lv_iload hx hb dX8_sift_147 (lv_at hl 5 rfl) ?_
          refine lv_aload_n hx hb dX8_sift_149 rfl (lv_at hl 0 rfl) ?_
          refine va_get (D := (dC, dI)) (ci := 8) (v := .ref (ad 35)) (C := RX8) (T := TX8) (N := 78) hx hb hts ki8 hown hK hP 0 rfl rfl 63 (by decide) kf120 (fun _ h9 => h9) rfl dX8_sift_150 ?_
          obtain ⟨q153, e153, h⟩ := g_b h
          refine callVis (cc := cX8_sift) (w1 := zzM ad cy iM (us aM [(61, x_aM61), (62, x_aM62), (63, x_aM63)])) (As := [.int v6, .ref (ad 35)]) (rest := []) ⟨hx, hb, hml, hown, hts⟩ (c_M_isMet_stood l dC dI cy ad H.size N v6 iM ((us aM [(61, x_aM61), (62, x_aM62), (63, x_aM63)])) q153 e153) (cwV 2 hts (goodV m_ml_X8_385 m_im_X8_isMet m_se_X8_isMet m_in_X8 m_cd_X8_isMet) rfl rfl rfl (by decide +kernel) ⟨Nat.le_of_ble_eq_true rfl, Nat.le_of_ble_eq_true rfl⟩) hN hK hP hD hS hA rfl 0 rfl rfl rfl hl.1 rfl (Nat.le_of_ble_eq_true rfl) dX8_sift_153 ⟨Nat.zero_le _, Nat.zero_le _⟩ (fun H locs hP hD hS => ?_)
          refine lv_if_ne (tgt := 185) hx hb dX8_sift_156 (by decide) (fun cz => ?_) (fun cz => ?_)
          · have h := g_f h cz
            refine lv_iinc (v := (v6 + (1 : Int32))) (lv' := [(6, .int ((v6 + (1 : Int32)))), (0, .ref (ad 0)), (2, .int v2), (3, .int v3), (4, .int v4), (5, .int v5)]) hx hb dX8_sift_185 hl (k := 5) rfl rfl (by decide) rfl (fun ls hl => ?_)
            refine lv_goto (tgt := 127) hx hb dX8_sift_188 (by decide) ?_
            exact ih v2 v3 v4 x_aM63 k84 hk84 v5 ((v6 + (1 : Int32))) x_aM61 x_aM62 H locs ls h hP hD hS (lv_sub hl [1, 2, 3, 4, 5, 0] rfl)
          · have h := g_t h cz
            refine lv_aload_n hx hb dX8_sift_159 rfl (lv_at hl 0 rfl) ?_
            refine va_get (D := (dC, dI)) (ci := 8) (v := .ref (ad 34)) (C := RX8) (T := TX8) (N := 78) hx hb hts ki8 hown hK hP 0 rfl rfl 62 (by decide) kf117 (fun _ h9 => h9) rfl dX8_sift_160 ?_
            refine lv_iload hx hb dX8_sift_163 (lv_at hl 5 rfl) ?_
            refine lv_iconst (v := 0) hx hb dX8_sift_165 (by decide) ?_
            refine va_zast (f := x_aM62) hx hb hK hP hD hS 34 4 rfl rfl g_114 dX8_sift_166 (fun H locs hP hD hS => ?_)
            have hP : va_P (dC, dI) vwCl (zzM ad cy iM (us aM [(61, x_aM61), (62, (upd x_aM62 v6.toNatClampNeg (vp_nar .boolean ((0 : Int32))))), (63, x_aM63)])) H := Eq.mp (congrArg (fun w => va_P (dC, dI) vwCl w H) (stM_aM62 ad cy iM aM [(61, x_aM61), (62, x_aM62), (63, x_aM63)] ((upd x_aM62 v6.toNatClampNeg (vp_nar .boolean ((0 : Int32))))))) hP
            have hD : va_D A (zzM ad cy iM (us aM [(61, x_aM61), (62, (upd x_aM62 v6.toNatClampNeg (vp_nar .boolean ((0 : Int32))))), (63, x_aM63)])) := Eq.mp (congrArg (fun w => va_D A w) (stM_aM62 ad cy iM aM [(61, x_aM61), (62, x_aM62), (63, x_aM63)] ((upd x_aM62 v6.toNatClampNeg (vp_nar .boolean ((0 : Int32))))))) hD
            refine lv_iconst (v := 1) hx hb dX8_sift_167 (by decide) ?_
            refine lv_istore (lv' := [(5, .int ((1 : Int32))), (0, .ref (ad 0)), (2, .int v2), (3, .int v3), (4, .int v4), (6, .int v6)]) hx hb dX8_sift_168 hl (by decide) rfl (fun ls hl => ?_)
            refine lv_iload_n hx hb dX8_sift_170 rfl (lv_at hl 2 rfl) ?_
            refine lv_if_eq (tgt := 185) hx hb dX8_sift_171 (by decide) (fun cz => ?_) (fun cz => ?_)
            · have h := g_t h cz
              refine lv_iinc (v := (v6 + (1 : Int32))) (lv' := [(6, .int ((v6 + (1 : Int32)))), (5, .int ((1 : Int32))), (0, .ref (ad 0)), (2, .int v2), (3, .int v3), (4, .int v4)]) hx hb dX8_sift_185 hl (k := 5) rfl rfl (by decide) rfl (fun ls hl => ?_)
              refine lv_goto (tgt := 127) hx hb dX8_sift_188 (by decide) ?_
              exact ih v2 v3 v4 x_aM63 k84 hk84 ((1 : Int32)) ((v6 + (1 : Int32))) x_aM61 ((upd x_aM62 v6.toNatClampNeg (vp_nar .boolean ((0 : Int32))))) H locs ls h hP hD hS (lv_sub hl [2, 3, 4, 5, 1, 0] rfl)
            · have h := g_f h cz
              refine lv_aload_n hx hb dX8_sift_174 rfl (lv_at hl 1 rfl) ?_
              refine va_get (D := (dC, dI)) (ci := 8) (v := .ref (ad 33)) (C := RX8) (T := TX8) (N := 78) hx hb hts ki8 hown hK hP 0 rfl rfl 61 (by decide) kf114 (fun _ h9 => h9) rfl dX8_sift_175 ?_
              refine lv_iload hx hb dX8_sift_178 (lv_at hl 5 rfl) ?_
              refine lv_iload hx hb dX8_sift_180 (lv_at hl 4 rfl) ?_
              refine lv_iconst (v := 1) hx hb dX8_sift_182 (by decide) ?_
              refine lv_iadd hx hb dX8_sift_183 ?_
              refine va_iast (f := x_aM61) hx hb hK hP hD hS 33 0 rfl rfl g_114 dX8_sift_184 (fun H locs hP hD hS => ?_)
              have hP : va_P (dC, dI) vwCl (zzM ad cy iM (us aM [(61, (upd x_aM61 v6.toNatClampNeg ((v4 + (1 : Int32))))), (62, (upd x_aM62 v6.toNatClampNeg (vp_nar .boolean ((0 : Int32))))), (63, x_aM63)])) H := Eq.mp (congrArg (fun w => va_P (dC, dI) vwCl w H) (stM_aM61 ad cy iM aM [(61, x_aM61), (62, (upd x_aM62 v6.toNatClampNeg (vp_nar .boolean ((0 : Int32))))), (63, x_aM63)] ((upd x_aM61 v6.toNatClampNeg ((v4 + (1 : Int32))))))) hP
              have hD : va_D A (zzM ad cy iM (us aM [(61, (upd x_aM61 v6.toNatClampNeg ((v4 + (1 : Int32))))), (62, (upd x_aM62 v6.toNatClampNeg (vp_nar .boolean ((0 : Int32))))), (63, x_aM63)])) := Eq.mp (congrArg (fun w => va_D A w) (stM_aM61 ad cy iM aM [(61, x_aM61), (62, (upd x_aM62 v6.toNatClampNeg (vp_nar .boolean ((0 : Int32))))), (63, x_aM63)] ((upd x_aM61 v6.toNatClampNeg ((v4 + (1 : Int32))))))) hD
              refine lv_iinc (v := (v6 + (1 : Int32))) (lv' := [(6, .int ((v6 + (1 : Int32)))), (5, .int ((1 : Int32))), (0, .ref (ad 0)), (2, .int v2), (3, .int v3), (4, .int v4)]) hx hb dX8_sift_185 hl (k := 5) rfl rfl (by decide) rfl (fun ls hl => ?_)
              refine lv_goto (tgt := 127) hx hb dX8_sift_188 (by decide) ?_
              exact ih v2 v3 v4 x_aM63 k84 hk84 ((1 : Int32)) ((v6 + (1 : Int32))) ((upd x_aM61 v6.toNatClampNeg ((v4 + (1 : Int32))))) ((upd x_aM62 v6.toNatClampNeg (vp_nar .boolean ((0 : Int32))))) H locs ls h hP hD hS (lv_sub hl [2, 3, 4, 5, 1, 0] rfl)
  have B95 : ∀ (n : Nat) (v2 : Int32) (v3 : Int32) (v4 : Int32) (v5 : Int32) (x_aM61 : Nat → Int32) (x_aM62 : Nat → Int32) (k84 : Int32 → Int32 → (Nat → Int32) → (Nat → Int32) → (Nat → Int32) → Option (Int32 × Int32 × (Nat → Int32) × (Nat → Int32) × (Nat → Int32))) (hk84 : ∀ (v4' : Int32) (v5' : Int32) (x_aM61' : Nat → Int32) (x_aM62' : Nat → Int32) (x_aM63' : Nat → Int32) (H : Heap) (locs : List Loc) (ls : Array Slot), k84 v4' v5' x_aM61' x_aM62' x_aM63' = some q → va_P (dC, dI) vwCl (zzM ad cy iM (us aM [(61, x_aM61'), (62, x_aM62'), (63, x_aM63')])) H → va_D A (zzM ad cy iM (us aM [(61, x_aM61'), (62, x_aM62'), (63, x_aM63')])) → va_S A s.heap H locs → lv_has ls 7 [(0, .ref (ad 0)), (2, .int v2), (3, .int v3), (4, .int v4'), (5, .int v5')] → W p l e ({ frames := 3, cells := 0, slots := 0, locals := 74 } : Room) s m args below meth c H locs 0 0 QQ (F0 m 84 ls [])) (v6 : Int32) (x_aM63 : Nat → Int32) (H : Heap) (locs : List Loc) (ls : Array Slot), f_M_sift_95 N (iM 20) (iM 28) (iM 36) (iM 64) (iM 65) (aM 15) (aM 16) (aM 17) (aM 19) (aM 29) (aM 57) (aM 58) (aM 59) (aM 60) (aM 61) (aM 62) (aM 63) k84 v2 v3 v4 v5 x_aM61 x_aM62 n v6 x_aM63 = some q → va_P (dC, dI) vwCl (zzM ad cy iM (us aM [(61, x_aM61), (62, x_aM62), (63, x_aM63)])) H → va_D A (zzM ad cy iM (us aM [(61, x_aM61), (62, x_aM62), (63, x_aM63)])) → va_S A s.heap H locs → lv_has ls 7 [(0, .ref (ad 0)), (2, .int v2), (3, .int v3), (4, .int v4), (5, .int v5), (6, .int v6)] → W p l e ({ frames := 3, cells := 0, slots := 0, locals := 74 } : Room) s m args below meth c H locs 0 0 QQ (F0 m 95 ls []) := by
    intro n
    induction n with
    | zero =>
      intro v2 v3 v4 v5 x_aM61 x_aM62 k84 hk84 v6 x_aM63 H locs ls h hP hD hS hl
      rw [f_M_sift_95] at h
      cases h
    | succ n ih =>
      intro v2 v3 v4 v5 x_aM61 x_aM62 k84 hk84 v6 x_aM63 H locs ls h hP hD hS hl
      rw [f_M_sift_95] at h
      refine lv_iload hx hb dX8_sift_95 (lv_at hl 5 rfl) ?_
      refine lv_aload_n hx hb dX8_sift_97 rfl (lv_at hl 0 rfl) ?_
      obtain ⟨q98, e98, h⟩ := g_b h
      refine callVis (cc := cX8_sift) (w1 := zzM ad cy iM (us aM [(61, x_aM61), (62, x_aM62), (63, x_aM63)])) (As := []) (rest := [.int v6]) ⟨hx, hb, hml, hown, hts⟩ (c_M_types l dC dI cy ad H.size iM ((us aM [(61, x_aM61), (62, x_aM62), (63, x_aM63)])) q98 e98) (cwV 0 hts (goodV m_ml_X8_368 m_im_X8_types m_se_X8_types m_in_X8 m_cd_X8_types) rfl rfl rfl (by decide +kernel) ⟨Nat.le_of_ble_eq_true rfl, Nat.le_of_ble_eq_true rfl⟩) hN hK hP hD hS hA rfl 0 rfl rfl rfl hl.1 rfl (Nat.le_of_ble_eq_true rfl) dX8_sift_98 ⟨Nat.zero_le _, Nat.zero_le _⟩ (fun H locs hP hD hS => ?_)
      refine lv_icmp_ge (tgt := 124) hx hb dX8_sift_101 (by decide) (fun cz => ?_) (fun cz => ?_)
      · have h := g_t h cz
        refine lv_iconst (v := 0) hx hb dX8_sift_124 (by decide) ?_
        refine lv_istore (lv' := [(6, .int ((0 : Int32))), (0, .ref (ad 0)), (2, .int v2), (3, .int v3), (4, .int v4), (5, .int v5)]) hx hb dX8_sift_125 hl (by decide) rfl (fun ls hl => ?_)
        exact B127 N v2 v3 v4 x_aM63 k84 hk84 v5 ((0 : Int32)) x_aM61 x_aM62 H locs ls h hP hD hS (lv_sub hl [1, 2, 3, 4, 5, 0] rfl)
      · have h := g_f h cz
        refine lv_aload_n hx hb dX8_sift_104 rfl (lv_at hl 0 rfl) ?_
        refine va_get (D := (dC, dI)) (ci := 8) (v := .ref (ad 35)) (C := RX8) (T := TX8) (N := 78) hx hb hts ki8 hown hK hP 0 rfl rfl 63 (by decide) kf120 (fun _ h9 => h9) rfl dX8_sift_105 ?_
        refine lv_iload hx hb dX8_sift_108 (lv_at hl 5 rfl) ?_
        refine lv_aload_n hx hb dX8_sift_110 rfl (lv_at hl 0 rfl) ?_
        refine va_get (D := (dC, dI)) (ci := 8) (v := .ref (ad 34)) (C := RX8) (T := TX8) (N := 78) hx hb hts ki8 hown hK hP 0 rfl rfl 62 (by decide) kf117 (fun _ h9 => h9) rfl dX8_sift_111 ?_
        refine lv_iload hx hb dX8_sift_114 (lv_at hl 5 rfl) ?_
        obtain ⟨g_114, h⟩ := g_n h
        refine va_zald (f := x_aM62) hx hb hK hP 34 4 rfl rfl g_114 dX8_sift_116 ?_
        refine va_zast (f := x_aM63) hx hb hK hP hD hS 35 4 rfl rfl g_114 dX8_sift_117 (fun H locs hP hD hS => ?_)
        have hP : va_P (dC, dI) vwCl (zzM ad cy iM (us aM [(61, x_aM61), (62, x_aM62), (63, (upd x_aM63 v6.toNatClampNeg (vp_nar .boolean ((x_aM62 v6.toNatClampNeg)))))])) H := Eq.mp (congrArg (fun w => va_P (dC, dI) vwCl w H) (stM_aM63 ad cy iM aM [(61, x_aM61), (62, x_aM62), (63, x_aM63)] ((upd x_aM63 v6.toNatClampNeg (vp_nar .boolean ((x_aM62 v6.toNatClampNeg))))))) hP
        have hD : va_D A (zzM ad cy iM (us aM [(61, x_aM61), (62, x_aM62), (63, (upd x_aM63 v6.toNatClampNeg (vp_nar .boolean ((x_aM62 v6.toNatClampNeg)))))])) := Eq.mp (congrArg (fun w => va_D A w) (stM_aM63 ad cy iM aM [(61, x_aM61), (62, x_aM62), (63, x_aM63)] ((upd x_aM63 v6.toNatClampNeg (vp_nar .boolean ((x_aM62 v6.toNatClampNeg))))))) hD
        refine lv_iinc (v := (v6 + (1 : Int32))) (lv' := [(6, .int ((v6 + (1 : Int32)))), (0, .ref (ad 0)), (2, .int v2), (3, .int v3), (4, .int v4), (5, .int v5)]) hx hb dX8_sift_118 hl (k := 5) rfl rfl (by decide) rfl (fun ls hl => ?_)
        refine lv_goto (tgt := 95) hx hb dX8_sift_121 (by decide) ?_
        exact ih v2 v3 v4 v5 x_aM61 x_aM62 k84 hk84 ((v6 + (1 : Int32))) ((upd x_aM63 v6.toNatClampNeg (vp_nar .boolean ((x_aM62 v6.toNatClampNeg))))) H locs ls h hP hD hS (lv_sub hl [1, 2, 3, 4, 5, 0] rfl)
  have B84 : ∀ (n : Nat) (v2 : Int32) (v3 : Int32) (v4 : Int32) (v5 : Int32) (x_aM61 : Nat → Int32) (x_aM62 : Nat → Int32) (x_aM63 : Nat → Int32) (H : Heap) (locs : List Loc) (ls : Array Slot), f_M_sift_84 N (iM 20) (iM 28) (iM 36) (iM 64) (iM 65) (aM 15) (aM 16) (aM 17) (aM 19) (aM 29) (aM 57) (aM 58) (aM 59) (aM 60) (aM 61) (aM 62) (aM 63) v2 v3 n v4 v5 x_aM61 x_aM62 x_aM63 = some q → va_P (dC, dI) vwCl (zzM ad cy iM (us aM [(61, x_aM61), (62, x_aM62), (63, x_aM63)])) H → va_D A (zzM ad cy iM (us aM [(61, x_aM61), (62, x_aM62), (63, x_aM63)])) → va_S A s.heap H locs → lv_has ls 7 [(0, .ref (ad 0)), (2, .int v2), (3, .int v3), (4, .int v4), (5, .int v5)] → W p l e ({ frames := 3, cells := 0, slots := 0, locals := 74 } : Room) s m args below meth c H locs 0 0 QQ (F0 m 84 ls []) := by
    intro n
    induction n with
    | zero =>
      intro v2 v3 v4 v5 x_aM61 x_aM62 x_aM63 H locs ls h hP hD hS hl
      rw [f_M_sift_84] at h
      cases h
    | succ n ih =>
      intro v2 v3 v4 v5 x_aM61 x_aM62 x_aM63 H locs ls h hP hD hS hl
      rw [f_M_sift_84] at h
      refine lv_iload hx hb dX8_sift_84 (lv_at hl 4 rfl) ?_
      refine lv_if_eq (tgt := 209) hx hb dX8_sift_86 (by decide) (fun cz => ?_) (fun cz => ?_)
      · have h := g_t h cz
        refine lv_iload_n hx hb dX8_sift_209 rfl (lv_at hl 1 rfl) ?_
        refine lv_if_eq (tgt := 224) hx hb dX8_sift_210 (by decide) (fun cz => ?_) (fun cz => ?_)
        · have h := g_t h cz
          have h' := Option.some.inj h
          rw [← hQQ]
          exact W.vret hx hb hr (fun t ht hW => ⟨⟨(), rfl, trivial, by rw [← hWQ, ← h', ht]; exact hP, va_K.moved hW.alike hK⟩, hS.F ht⟩) hS.2.2 dX8_sift_224
        · have h := g_f h cz
          refine lv_aload_n hx hb dX8_sift_213 rfl (lv_at hl 0 rfl) ?_
          refine lv_iload_n hx hb dX8_sift_214 rfl (lv_at hl 2 rfl) ?_
          refine va_put (D := (dC, dI)) (ci := 8) (v := .int v3) (ty := .int) (C := RX8) (T := TX8) (N := 78) hx hb hts ki8 tyX8 tyX8_ok nmX8 hown hK hP hD hS 0 rfl rfl 64 (by decide) kf389 (fun _ h9 => h9) rfl (by decide +kernel) rfl rfl (Nat.le_of_ble_eq_true rfl) dX8_sift_215 (fun H locs hP hD hS => ?_)
          have hP : va_P (dC, dI) vwCl (zzM ad cy (us iM [(64, v3)]) (us aM [(61, x_aM61), (62, x_aM62), (63, x_aM63)])) H := Eq.mp (congrArg (fun w => va_P (dC, dI) vwCl w H) (sfM_iM64 ad cy iM (us aM [(61, x_aM61), (62, x_aM62), (63, x_aM63)]) v3)) hP
          have hD : va_D A (zzM ad cy (us iM [(64, v3)]) (us aM [(61, x_aM61), (62, x_aM62), (63, x_aM63)])) := Eq.mp (congrArg (fun w => va_D A w) (sfM_iM64 ad cy iM (us aM [(61, x_aM61), (62, x_aM62), (63, x_aM63)]) v3)) hD
          refine lv_aload_n hx hb dX8_sift_218 rfl (lv_at hl 0 rfl) ?_
          refine lv_iload hx hb dX8_sift_219 (lv_at hl 3 rfl) ?_
          refine va_put (D := (dC, dI)) (ci := 8) (v := .int v4) (ty := .int) (C := RX8) (T := TX8) (N := 78) hx hb hts ki8 tyX8 tyX8_ok nmX8 hown hK hP hD hS 0 rfl rfl 65 (by decide) kf392 (fun _ h9 => h9) rfl (by decide +kernel) rfl rfl (Nat.le_of_ble_eq_true rfl) dX8_sift_221 (fun H locs hP hD hS => ?_)
          have hP : va_P (dC, dI) vwCl (zzM ad cy (us iM [(64, v3), (65, v4)]) (us aM [(61, x_aM61), (62, x_aM62), (63, x_aM63)])) H := Eq.mp (congrArg (fun w => va_P (dC, dI) vwCl w H) (stM_iM65 ad cy iM (us aM [(61, x_aM61), (62, x_aM62), (63, x_aM63)]) [(64, v3)] v4)) hP
          have hD : va_D A (zzM ad cy (us iM [(64, v3), (65, v4)]) (us aM [(61, x_aM61), (62, x_aM62), (63, x_aM63)])) := Eq.mp (congrArg (fun w => va_D A w) (stM_iM65 ad cy iM (us aM [(61, x_aM61), (62, x_aM62), (63, x_aM63)]) [(64, v3)] v4)) hD
          have h' := Option.some.inj h
          rw [← hQQ]
          exact W.vret hx hb hr (fun t ht hW => ⟨⟨(), rfl, trivial, by rw [← hWQ, ← h', ht]; exact hP, va_K.moved hW.alike hK⟩, hS.F ht⟩) hS.2.2 dX8_sift_224
      · have h := g_f h cz
        refine lv_iconst (v := 0) hx hb dX8_sift_89 (by decide) ?_
        refine lv_istore (lv' := [(5, .int ((0 : Int32))), (0, .ref (ad 0)), (2, .int v2), (3, .int v3), (4, .int v4)]) hx hb dX8_sift_90 hl (by decide) rfl (fun ls hl => ?_)
        refine lv_iconst (v := 0) hx hb dX8_sift_92 (by decide) ?_
        refine lv_istore (lv' := [(6, .int ((0 : Int32))), (5, .int ((0 : Int32))), (0, .ref (ad 0)), (2, .int v2), (3, .int v3), (4, .int v4)]) hx hb dX8_sift_93 hl (by decide) rfl (fun ls hl => ?_)
        exact B95 N v2 v3 v4 ((0 : Int32)) x_aM61 x_aM62 (f_M_sift_84 N (iM 20) (iM 28) (iM 36) (iM 64) (iM 65) (aM 15) (aM 16) (aM 17) (aM 19) (aM 29) (aM 57) (aM 58) (aM 59) (aM 60) (aM 61) (aM 62) (aM 63) v2 v3 n) (ih v2 v3) ((0 : Int32)) x_aM63 H locs ls h hP hD hS (lv_sub hl [2, 3, 4, 5, 1, 0] rfl)
  have B5 : ∀ (n : Nat) (v1 : Int32) (v2 : Int32) (v3 : Int32) (v4 : Int32) (x_aM61 : Nat → Int32) (x_aM62 : Nat → Int32) (H : Heap) (locs : List Loc) (ls : Array Slot), f_M_sift_5 N (iM 20) (iM 28) (iM 36) (iM 64) (iM 65) (aM 15) (aM 16) (aM 17) (aM 19) (aM 29) (aM 57) (aM 58) (aM 59) (aM 60) (aM 61) (aM 62) (aM 63) v1 v2 n v3 v4 x_aM61 x_aM62 = some q → va_P (dC, dI) vwCl (zzM ad cy iM (us aM [(61, x_aM61), (62, x_aM62)])) H → va_D A (zzM ad cy iM (us aM [(61, x_aM61), (62, x_aM62)])) → va_S A s.heap H locs → lv_has ls 7 [(0, .ref (ad 0)), (1, .int v1), (2, .int v2), (3, .int v3), (4, .int v4)] → W p l e ({ frames := 3, cells := 0, slots := 0, locals := 74 } : Room) s m args below meth c H locs 0 0 QQ (F0 m 5 ls []) := by
    intro n
    induction n with
    | zero =>
      intro v1 v2 v3 v4 x_aM61 x_aM62 H locs ls h hP hD hS hl
      rw [f_M_sift_5] at h
      cases h
    | succ n ih =>
      intro v1 v2 v3 v4 x_aM61 x_aM62 H locs ls h hP hD hS hl
      rw [f_M_sift_5] at h
      refine lv_iload hx hb dX8_sift_5 (lv_at hl 4 rfl) ?_
      refine lv_aload_n hx hb dX8_sift_7 rfl (lv_at hl 0 rfl) ?_
      obtain ⟨q8, e8, h⟩ := g_b h
      refine callVis (cc := cX8_sift) (w1 := zzM ad cy iM (us aM [(61, x_aM61), (62, x_aM62)])) (As := []) (rest := [.int v4]) ⟨hx, hb, hml, hown, hts⟩ (c_M_types l dC dI cy ad H.size iM ((us aM [(61, x_aM61), (62, x_aM62)])) q8 e8) (cwV 0 hts (goodV m_ml_X8_368 m_im_X8_types m_se_X8_types m_in_X8 m_cd_X8_types) rfl rfl rfl (by decide +kernel) ⟨Nat.le_of_ble_eq_true rfl, Nat.le_of_ble_eq_true rfl⟩) hN hK hP hD hS hA rfl 0 rfl rfl rfl hl.1 rfl (Nat.le_of_ble_eq_true rfl) dX8_sift_8 ⟨Nat.zero_le _, Nat.zero_le _⟩ (fun H locs hP hD hS => ?_)
      refine lv_icmp_ge (tgt := 78) hx hb dX8_sift_11 (by decide) (fun cz => ?_) (fun cz => ?_)
      · have h := g_t h cz
        refine lv_iconst (v := 0) hx hb dX8_sift_78 (by decide) ?_
        refine lv_istore (lv' := [(4, .int ((0 : Int32))), (0, .ref (ad 0)), (1, .int v1), (2, .int v2), (3, .int v3)]) hx hb dX8_sift_79 hl (by decide) rfl (fun ls hl => ?_)
        refine lv_iconst (v := 1) hx hb dX8_sift_81 (by decide) ?_
        refine lv_istore (lv' := [(5, .int ((1 : Int32))), (4, .int ((0 : Int32))), (0, .ref (ad 0)), (1, .int v1), (2, .int v2), (3, .int v3)]) hx hb dX8_sift_82 hl (by decide) rfl (fun ls hl => ?_)
        exact B84 N v2 v3 ((0 : Int32)) ((1 : Int32)) x_aM61 x_aM62 (aM 63) H locs ls h hP hD hS (lv_sub hl [2, 4, 5, 1, 0] rfl)
      · have h := g_f h cz
        refine lv_aload_n hx hb dX8_sift_14 rfl (lv_at hl 0 rfl) ?_
        refine va_get (D := (dC, dI)) (ci := 8) (v := .ref (ad 34)) (C := RX8) (T := TX8) (N := 78) hx hb hts ki8 hown hK hP 0 rfl rfl 62 (by decide) kf117 (fun _ h9 => h9) rfl dX8_sift_15 ?_
        refine lv_iload hx hb dX8_sift_18 (lv_at hl 4 rfl) ?_
        refine lv_aload_n hx hb dX8_sift_20 rfl (lv_at hl 0 rfl) ?_
        refine lv_iload hx hb dX8_sift_21 (lv_at hl 4 rfl) ?_
        refine lv_iload_n hx hb dX8_sift_23 rfl (lv_at hl 1 rfl) ?_
        obtain ⟨q24, e24, h⟩ := g_b h
        refine callVis (cc := cX8_sift) (w1 := zzM ad cy iM (us aM [(61, x_aM61), (62, x_aM62)])) (As := [.int v4, .int v1]) (rest := [.int v4, .ref (ad 34)]) ⟨hx, hb, hml, hown, hts⟩ (c_M_isFair l dC dI cy ad H.size N v4 v1 iM ((us aM [(61, x_aM61), (62, x_aM62)])) q24 e24) (cwV 2 hts (goodV m_ml_X8_382 m_im_X8_isFair m_se_X8_isFair m_in_X8 m_cd_X8_isFair) rfl rfl rfl (by decide +kernel) ⟨Nat.le_of_ble_eq_true rfl, Nat.le_of_ble_eq_true rfl⟩) hN hK hP hD hS hA rfl 0 rfl rfl rfl hl.1 rfl (Nat.le_of_ble_eq_true rfl) dX8_sift_24 ⟨Nat.zero_le _, Nat.zero_le _⟩ (fun H locs hP hD hS => ?_)
        obtain ⟨g_28, h⟩ := g_n h
        refine va_zast (f := x_aM62) hx hb hK hP hD hS 34 4 rfl rfl g_28 dX8_sift_27 (fun H locs hP hD hS => ?_)
        have hP : va_P (dC, dI) vwCl (zzM ad cy iM (us aM [(61, x_aM61), (62, (upd x_aM62 v4.toNatClampNeg (vp_nar .boolean q24)))])) H := Eq.mp (congrArg (fun w => va_P (dC, dI) vwCl w H) (stM_aM62 ad cy iM aM [(61, x_aM61), (62, x_aM62)] ((upd x_aM62 v4.toNatClampNeg (vp_nar .boolean q24))))) hP
        have hD : va_D A (zzM ad cy iM (us aM [(61, x_aM61), (62, (upd x_aM62 v4.toNatClampNeg (vp_nar .boolean q24)))])) := Eq.mp (congrArg (fun w => va_D A w) (stM_aM62 ad cy iM aM [(61, x_aM61), (62, x_aM62)] ((upd x_aM62 v4.toNatClampNeg (vp_nar .boolean q24))))) hD
        refine lv_iload_n hx hb dX8_sift_28 rfl (lv_at hl 3 rfl) ?_
        refine lv_aload_n hx hb dX8_sift_29 rfl (lv_at hl 0 rfl) ?_
        refine va_get (D := (dC, dI)) (ci := 8) (v := .ref (ad 34)) (C := RX8) (T := TX8) (N := 78) hx hb hts ki8 hown hK hP 0 rfl rfl 62 (by decide) kf117 (fun _ h9 => h9) rfl dX8_sift_30 ?_
        refine lv_iload hx hb dX8_sift_33 (lv_at hl 4 rfl) ?_
        refine va_zald (f := (upd x_aM62 v4.toNatClampNeg (vp_nar .boolean q24))) hx hb hK hP 34 4 rfl rfl g_28 dX8_sift_35 ?_
        refine lv_if_eq (tgt := 43) hx hb dX8_sift_36 (by decide) (fun cz => ?_) (fun cz => ?_)
        · have h := g_t h cz
          refine lv_iconst (v := 0) hx hb dX8_sift_43 (by decide) ?_
          exact B44 v1 v2 v4 v3 ((0 : Int32)) x_aM61 ((upd x_aM62 v4.toNatClampNeg (vp_nar .boolean q24))) (f_M_sift_5 N (iM 20) (iM 28) (iM 36) (iM 64) (iM 65) (aM 15) (aM 16) (aM 17) (aM 19) (aM 29) (aM 57) (aM 58) (aM 59) (aM 60) (aM 61) (aM 62) (aM 63) v1 v2 n) (ih v1 v2) H locs ls h hP hD hS (lv_sub hl [0, 1, 2, 4] rfl)
        · have h := g_f h cz
          refine lv_iconst (v := 1) hx hb dX8_sift_39 (by decide) ?_
          refine lv_goto (tgt := 44) hx hb dX8_sift_40 (by decide) ?_
          exact B44 v1 v2 v4 v3 ((1 : Int32)) x_aM61 ((upd x_aM62 v4.toNatClampNeg (vp_nar .boolean q24))) (f_M_sift_5 N (iM 20) (iM 28) (iM 36) (iM 64) (iM 65) (aM 15) (aM 16) (aM 17) (aM 19) (aM 29) (aM 57) (aM 58) (aM 59) (aM 60) (aM 61) (aM 62) (aM 63) v1 v2 n) (ih v1 v2) H locs ls h hP hD hS (lv_sub hl [0, 1, 2, 4] rfl)
  intro H locs hP hD hS
  unfold f_M_sift at h
  refine lv_iconst (v := 0) hx hb dX8_sift_0 (by decide) ?_
  refine lv_istore_n (lv' := [(3, .int ((0 : Int32))), (0, .ref (ad 0)), (1, .int a1), (2, .int a2)]) hx hb dX8_sift_1 rfl hl (by decide) rfl (fun ls hl => ?_)
  refine lv_iconst (v := 0) hx hb dX8_sift_2 (by decide) ?_
  refine lv_istore (lv' := [(4, .int ((0 : Int32))), (3, .int ((0 : Int32))), (0, .ref (ad 0)), (1, .int a1), (2, .int a2)]) hx hb dX8_sift_3 hl (by decide) rfl (fun ls hl => ?_)
  exact B5 N a1 a2 ((0 : Int32)) ((0 : Int32)) (aM 61) (aM 62) H locs ls h hP hD hS (lv_sub hl [2, 3, 4, 1, 0] rfl)
