def f_R_takeIn_136 (N : Nat) (iR : Nat → Int32) (iT : Nat → Int32) (wT : Int64) (tx : Nat → Int32) (iB : Nat → Int32) (lB : Nat → Nat → Int64) (aB : Nat → Nat → Int32) (iC : Nat → Int32) (aC : Nat → Nat → Int32) (x_iR : Nat → Int32) (x_iT : Nat → Int32) (x_wT : Int64) (x_iB : Nat → Int32) (x_lB : Nat → Nat → Int64) (x_aB : Nat → Nat → Int32) (x_iC : Nat → Int32) (x_aC : Nat → Nat → Int32) : Option (Int32 × (Nat → Int32) × (Nat → Int32) × Int64 × (Nat → Int32) × (Nat → Nat → Int64) × (Nat → Nat → Int32) × (Nat → Int32) × (Nat → Nat → Int32)) := if (x_iR 3) = 0 then (some ((1 : Int32), x_iR, x_iT, x_wT, x_iB, x_lB, x_aB, x_iC, x_aC)) else (some ((0 : Int32), x_iR, x_iT, x_wT, x_iB, x_lB, x_aB, x_iC, x_aC))
def f_R_takeIn_40 (N : Nat) (iR : Nat → Int32) (iT : Nat → Int32) (wT : Int64) (tx : Nat → Int32) (iB : Nat → Int32) (lB : Nat → Nat → Int64) (aB : Nat → Nat → Int32) (iC : Nat → Int32) (aC : Nat → Nat → Int32) (v1 : Int32) : Nat → Int32 → (Nat → Int32) → (Nat → Int32) → Int64 → (Nat → Int32) → (Nat → Nat → Int64) → (Nat → Nat → Int32) → (Nat → Int32) → (Nat → Nat → Int32) → Option (Int32 × (Nat → Int32) × (Nat → Int32) × Int64 × (Nat → Int32) × (Nat → Nat → Int64) × (Nat → Nat → Int32) × (Nat → Int32) × (Nat → Nat → Int32))
  | 0, _, _, _, _, _, _, _, _, _ => none
  | n + 1, v3, x_iR, x_iT, x_wT, x_iB, x_lB, x_aB, x_iC, x_aC => if v1 < v3 then (f_R_takeIn_136 N iR iT wT tx iB lB aB iC aC x_iR x_iT x_wT x_iB x_lB x_aB x_iC x_aC) else (if (x_iR 3) = 0 then (if (x_iT 4) = (1 : Int32) then (f_R_takeIn_136 N iR iT wT tx iB lB aB iC aC x_iR x_iT x_wT x_iB x_lB x_aB x_iC x_aC) else (if x_wT = (6386539 : Int64) then ((f_R_takeQuestion N x_iR x_iT x_wT tx x_iB x_lB x_aB x_iC x_aC).bind fun q78 => (f_R_takeIn_40 N iR iT wT tx iB lB aB iC aC v1 n ((v3 + (1 : Int32))) q78.1 q78.2.1 q78.2.2.1 q78.2.2.2.1 q78.2.2.2.2.1 q78.2.2.2.2.2.1 q78.2.2.2.2.2.2.1 q78.2.2.2.2.2.2.2)) else (if x_wT = (504363246962 : Int64) then ((f_R_takeOrder N ((x_iR 3)) ((x_iR 4)) ((x_iT 1)) ((x_iT 2)) ((x_iT 3)) ((x_iT 4)) x_wT tx ((x_iB 3)) ((x_iB 5)) ((x_iB 7)) ((x_iB 13)) ((x_iB 14)) ((x_lB 2)) ((x_lB 4)) ((x_aB 6)) ((x_aB 12))).bind fun q99 => (f_R_takeIn_40 N iR iT wT tx iB lB aB iC aC v1 n ((v3 + (1 : Int32))) ((us x_iR [(3, q99.1), (4, q99.2.1)])) ((us x_iT [(2, q99.2.2.1), (3, q99.2.2.2.1), (4, q99.2.2.2.2.1)])) q99.2.2.2.2.2.1 ((us x_iB [(5, q99.2.2.2.2.2.2.1), (7, q99.2.2.2.2.2.2.2.1), (14, q99.2.2.2.2.2.2.2.2.1)])) ((us x_lB [(4, q99.2.2.2.2.2.2.2.2.2.1)])) ((us x_aB [(6, q99.2.2.2.2.2.2.2.2.2.2.1), (12, q99.2.2.2.2.2.2.2.2.2.2.2)])) x_iC x_aC)) else (if x_wT = (126896661032037 : Int64) then ((f_R_takeSingle N ((x_iR 3)) ((x_iR 4)) ((x_iT 1)) ((x_iT 2)) ((x_iT 3)) ((x_iT 4)) x_wT tx ((x_iB 3)) ((x_iB 5)) ((x_iB 7)) ((x_iB 13)) ((x_iB 14)) ((x_lB 2)) ((x_lB 4)) ((x_aB 6))).bind fun q120 => (f_R_takeIn_40 N iR iT wT tx iB lB aB iC aC v1 n ((v3 + (1 : Int32))) ((us x_iR [(3, q120.1), (4, q120.2.1)])) ((us x_iT [(2, q120.2.2.1), (3, q120.2.2.2.1), (4, q120.2.2.2.2.1)])) q120.2.2.2.2.2.1 ((us x_iB [(5, q120.2.2.2.2.2.2.1), (7, q120.2.2.2.2.2.2.2.1), (13, q120.2.2.2.2.2.2.2.2.1)])) ((us x_lB [(4, q120.2.2.2.2.2.2.2.2.2.1)])) ((us x_aB [(6, q120.2.2.2.2.2.2.2.2.2.2)])) x_iC x_aC)) else ((f_R_takeRule N x_iR x_iT x_wT tx x_iB x_lB x_aB x_iC x_aC).bind fun q127 => (f_R_takeIn_40 N iR iT wT tx iB lB aB iC aC v1 n ((v3 + (1 : Int32))) q127.1 q127.2.1 q127.2.2.1 q127.2.2.2.1 q127.2.2.2.2.1 q127.2.2.2.2.2.1 q127.2.2.2.2.2.2.1 q127.2.2.2.2.2.2.2)))))) else (f_R_takeIn_136 N iR iT wT tx iB lB aB iC aC x_iR x_iT x_wT x_iB x_lB x_aB x_iC x_aC))
def f_R_takeIn (N : Nat) (a1 : Int32) (iR : Nat → Int32) (iT : Nat → Int32) (wT : Int64) (tx : Nat → Int32) (iB : Nat → Int32) (lB : Nat → Nat → Int64) (aB : Nat → Nat → Int32) (iC : Nat → Int32) (aC : Nat → Nat → Int32) : Option (Int32 × (Nat → Int32) × (Nat → Int32) × Int64 × (Nat → Int32) × (Nat → Nat → Int64) × (Nat → Nat → Int32) × (Nat → Int32) × (Nat → Nat → Int32)) := (f_B_clear N ((iB 1)) ((iB 3)) ((iB 5)) ((iB 7)) ((iB 9)) ((iB 11)) ((iB 13)) ((iB 14)) ((aB 12)) ((iC 4)) ((iC 9))).bind fun q17 => ((f_T_start N a1 ((iT 1)) ((iT 2)) ((iT 3)) ((iT 4)) wT tx).bind fun q35 => (f_R_takeIn_40 N iR iT wT tx iB lB aB iC aC a1 N ((0 : Int32)) ((us iR [(3, (0 : Int32)), (4, (-1 : Int32))])) ((us iT [(1, q35.1), (2, q35.2.1), (3, q35.2.2.1), (4, q35.2.2.2.1)])) q35.2.2.2.2 ((us iB [(1, q17.1), (3, q17.2.1), (5, q17.2.2.1), (7, q17.2.2.2.1), (9, q17.2.2.2.2.1), (11, q17.2.2.2.2.2.1), (13, q17.2.2.2.2.2.2.1), (14, q17.2.2.2.2.2.2.2.1)])) lB ((us aB [(12, q17.2.2.2.2.2.2.2.2.1)])) ((us iC [(4, q17.2.2.2.2.2.2.2.2.2.1), (9, q17.2.2.2.2.2.2.2.2.2.2)])) aC))
set_option maxHeartbeats 8000000 in
set_option maxRecDepth 100000 in
theorem c_R_takeIn (l : Launch) (dC : Nat → ClassId) (dI : Nat → Nat → Nat) (cy : Nat → ClassId) (ad : Nat → Nat) (sz : Nat) (rb : Nat) (rc : Nat) (N : Nat) (a1 : Int32) (iR : Nat → Int32) (iT : Nat → Int32) (wT : Int64) (tx : Nat → Int32) (iB : Nat → Int32) (lB : Nat → Nat → Int64) (aB : Nat → Nat → Int32) (iC : Nat → Int32) (aC : Nat → Nat → Int32) (q : Int32 × (Nat → Int32) × (Nat → Int32) × Int64 × (Nat → Int32) × (Nat → Nat → Int64) × (Nat → Nat → Int32) × (Nat → Int32) × (Nat → Nat → Int32)) (h : f_R_takeIn N a1 iR iT wT tx iB lB aB iC aC = some q) : Met l yX4_takeIn wsX4_takeIn ({ frames := 90, cells := 0, slots := 0, locals := 2161 } : Room) (cP (dC, dI) cy [.ref (ad 0), .int a1, .ref (ad 3)] (zzR ad cy rb rc iR iT wT tx iB lB aB iC aC) sz) (cQi (dC, dI) cy q.1 (zzR ad cy (ad 3) (ad 10) q.2.1 q.2.2.1 q.2.2.2.1 tx q.2.2.2.2.1 q.2.2.2.2.2.1 q.2.2.2.2.2.2.1 q.2.2.2.2.2.2.2.1 q.2.2.2.2.2.2.2.2) (va_A (zzR ad cy rb rc iR iT wT tx iB lB aB iC aC) sz)) 0 0 (va_A (zzR ad cy rb rc iR iT wT tx iB lB aB iC aC) sz) := by
  refine Met.ofW (cc := cX4_takeIn) (maxL := 4) (ret := (some .boolean)) (by decide) rfl ?_
  intro p e s m args below meth c s₁ B hml hv
  obtain ⟨hav, hsz, hP, hK, hD0, hN⟩ := hv
  have hx := B.exec
  have hb := B.bytes
  have hr := B.returns
  have hts := atoms_spec (ws := wsX4_takeIn) B.pre
  have hown : s.vm.findClass RX4 = some m.cls := findClass_of_methodNamed B.named
  have hlocks := B.notSynchronized
  subst hsz
  have hD := hD0.self (sz := s.heap.size)
  generalize hAe : va_A (zzR ad cy rb rc iR iT wT tx iB lB aB iC aC) s.heap.size = A at hD ⊢
  have hA : ∀ q : Nat, s.heap.size ≤ q → A q := fun q h => by rw [← hAe]; exact Or.inr h
  have hS : va_S A s.heap s.heap [] := va_S.rf
  generalize hWQ : (zzR ad cy (ad 3) (ad 10) q.2.1 q.2.2.1 q.2.2.2.1 tx q.2.2.2.2.1 q.2.2.2.2.2.1 q.2.2.2.2.2.2.1 q.2.2.2.2.2.2.2.1 q.2.2.2.2.2.2.2.2) = WQ
  generalize hQQ : MQ below (cQi (dC, dI) cy q.1 WQ A) args s 0 0 A = QQ
  have hl := lv_entry ([.ref (ad 0), .int a1, .ref (ad 3)] : List Value) (n := 4) (Nat.le_of_ble_eq_true rfl)
  have hfr := lg_entry_eq m ([.ref (ad 0), .int a1, .ref (ad 3)] : List Value) 4
  rw [← hav] at hfr
  rw [hfr]
  clear hfr hav
  generalize (lg_sl ([.ref (ad 0), .int a1, .ref (ad 3)] : List Value) ++ List.replicate (4 - (lg_sl ([.ref (ad 0), .int a1, .ref (ad 3)] : List Value)).length) Slot.unset).toArray = ls at hl ⊢
  have hl : lv_has ls 4 [(0, .ref (ad 0)), (1, .int a1), (2, .ref (ad 3))] := hl
  have kf38 := hts _ (List.mem_cons_of_mem _ m_fl_X4_38)
  have ki4 := (fun w h => List.mem_cons_of_mem _ (i_X4 w h) : ∀ w ∈ u_ws RX4 TX4 5, w ∈ wsX4_takeIn)
  have kf20 := hts _ (List.mem_cons_of_mem _ m_fl_X4_20)
  have kf45 := hts _ (List.mem_cons_of_mem _ m_fl_X4_45)
  have ki5 := (fun w h => List.mem_cons_of_mem _ (i_X5 w h) : ∀ w ∈ u_ws RX5 TX5 6, w ∈ wsX4_takeIn)
  have kf48 := hts _ (List.mem_cons_of_mem _ m_fl_X4_48)
  have kc52 := hts _ (List.mem_cons_of_mem _ m_kl_X4_52)
  have kc57 := hts _ (List.mem_cons_of_mem _ m_kl_X4_57)
  have kc62 := hts _ (List.mem_cons_of_mem _ m_kl_X4_62)
  have kf24 := hts _ (List.mem_cons_of_mem _ m_fl_X4_24)
  have kf28 := hts _ (List.mem_cons_of_mem _ m_fl_X4_28)
  have ki0 := (fun w h => List.mem_cons_of_mem _ (i_X0 w h) : ∀ w ∈ u_ws RX0 TX0 15, w ∈ wsX4_takeIn)
  have kf34 := hts _ (List.mem_cons_of_mem _ m_fl_X4_34)
  have kf9 := hts _ (List.mem_cons_of_mem _ m_fl_X4_9)
  refine (?_ : ∀ (H : Heap) (locs : List Loc), va_P (dC, dI) vwCl (zzR ad cy rb rc iR iT wT tx iB lB aB iC aC) H → va_D A (zzR ad cy rb rc iR iT wT tx iB lB aB iC aC) → va_S A s.heap H locs → W p l e ({ frames := 90, cells := 0, slots := 0, locals := 2161 } : Room) s m args below meth c H locs 0 0 QQ (F0 m 0 ls [])) s.heap [] hP hD hS
  clear hP hD hS
  have B136 : ∀ (x_iR : Nat → Int32) (x_iT : Nat → Int32) (x_wT : Int64) (x_iB : Nat → Int32) (x_lB : Nat → Nat → Int64) (x_aB : Nat → Nat → Int32) (x_iC : Nat → Int32) (x_aC : Nat → Nat → Int32) (H : Heap) (locs : List Loc) (ls : Array Slot), f_R_takeIn_136 N iR iT wT tx iB lB aB iC aC x_iR x_iT x_wT x_iB x_lB x_aB x_iC x_aC = some q → va_P (dC, dI) vwCl (zzR ad cy (ad 3) (ad 10) x_iR x_iT x_wT tx x_iB x_lB x_aB x_iC x_aC) H → va_D A (zzR ad cy (ad 3) (ad 10) x_iR x_iT x_wT tx x_iB x_lB x_aB x_iC x_aC) → va_S A s.heap H locs → lv_has ls 4 [(0, .ref (ad 0))] → W p l e ({ frames := 90, cells := 0, slots := 0, locals := 2161 } : Room) s m args below meth c H locs 0 0 QQ (F0 m 136 ls []) := by
    intro x_iR x_iT x_wT x_iB x_lB x_aB x_iC x_aC H locs ls h hP hD hS hl
    unfold f_R_takeIn_136 at h
    refine lv_aload_n hx hb dX4_takeIn_136 rfl (lv_at hl 0 rfl) ?_
    refine va_get (D := (dC, dI)) (ci := 4) (v := .int ((x_iR 3))) (C := RX4) (T := TX4) (N := 5) hx hb hts ki4 hown hK hP 0 rfl rfl 3 (by decide) kf38 (fun _ h9 => h9) rfl dX4_takeIn_137 ?_
    refine lv_if_ne (tgt := 147) hx hb dX4_takeIn_140 (by decide) (fun cz => ?_) (fun cz => ?_)
    · have h := g_f h cz
      refine lv_iconst (v := 0) hx hb dX4_takeIn_147 (by decide) ?_
      have h' := Option.some.inj h
      rw [← hQQ]
      exact W.zret (v := (0 : Int32)) hx hb hr rfl (fun t ht hW => ⟨⟨(0 : Int32), (), rfl, by rw [← h'], by rw [← hWQ, ← h', ht]; exact hP, va_K.moved hW.alike hK⟩, hS.F ht⟩) hS.2.2 dX4_takeIn_148
    · have h := g_t h cz
      refine lv_iconst (v := 1) hx hb dX4_takeIn_143 (by decide) ?_
      refine lv_goto (tgt := 148) hx hb dX4_takeIn_144 (by decide) ?_
      have h' := Option.some.inj h
      rw [← hQQ]
      exact W.zret (v := (1 : Int32)) hx hb hr rfl (fun t ht hW => ⟨⟨(1 : Int32), (), rfl, by rw [← h'], by rw [← hWQ, ← h', ht]; exact hP, va_K.moved hW.alike hK⟩, hS.F ht⟩) hS.2.2 dX4_takeIn_148
  have B40 : ∀ (n : Nat) (v1 : Int32) (v3 : Int32) (x_iR : Nat → Int32) (x_iT : Nat → Int32) (x_wT : Int64) (x_iB : Nat → Int32) (x_lB : Nat → Nat → Int64) (x_aB : Nat → Nat → Int32) (x_iC : Nat → Int32) (x_aC : Nat → Nat → Int32) (H : Heap) (locs : List Loc) (ls : Array Slot), f_R_takeIn_40 N iR iT wT tx iB lB aB iC aC v1 n v3 x_iR x_iT x_wT x_iB x_lB x_aB x_iC x_aC = some q → va_P (dC, dI) vwCl (zzR ad cy (ad 3) (ad 10) x_iR x_iT x_wT tx x_iB x_lB x_aB x_iC x_aC) H → va_D A (zzR ad cy (ad 3) (ad 10) x_iR x_iT x_wT tx x_iB x_lB x_aB x_iC x_aC) → va_S A s.heap H locs → lv_has ls 4 [(0, .ref (ad 0)), (1, .int v1), (3, .int v3)] → W p l e ({ frames := 90, cells := 0, slots := 0, locals := 2161 } : Room) s m args below meth c H locs 0 0 QQ (F0 m 40 ls []) := by
    intro n
    induction n with
    | zero =>
      intro v1 v3 x_iR x_iT x_wT x_iB x_lB x_aB x_iC x_aC H locs ls h hP hD hS hl
      rw [f_R_takeIn_40] at h
      cases h
    | succ n ih =>
      intro v1 v3 x_iR x_iT x_wT x_iB x_lB x_aB x_iC x_aC H locs ls h hP hD hS hl
      rw [f_R_takeIn_40] at h
      refine lv_iload_n hx hb dX4_takeIn_40 rfl (lv_at hl 2 rfl) ?_
      refine lv_iload_n hx hb dX4_takeIn_41 rfl (lv_at hl 1 rfl) ?_
      refine lv_icmp_gt (tgt := 136) hx hb dX4_takeIn_42 (by decide) (fun cz => ?_) (fun cz => ?_)
      · have h := g_t h cz
        exact B136 x_iR x_iT x_wT x_iB x_lB x_aB x_iC x_aC H locs ls h hP hD hS (lv_sub hl [0] rfl)
      · have h := g_f h cz
        refine lv_aload_n hx hb dX4_takeIn_45 rfl (lv_at hl 0 rfl) ?_
        refine va_get (D := (dC, dI)) (ci := 4) (v := .int ((x_iR 3))) (C := RX4) (T := TX4) (N := 5) hx hb hts ki4 hown hK hP 0 rfl rfl 3 (by decide) kf38 (fun _ h9 => h9) rfl dX4_takeIn_46 ?_
        refine lv_if_ne (tgt := 136) hx hb dX4_takeIn_49 (by decide) (fun cz => ?_) (fun cz => ?_)
        · have h := g_f h cz
          exact B136 x_iR x_iT x_wT x_iB x_lB x_aB x_iC x_aC H locs ls h hP hD hS (lv_sub hl [0] rfl)
        · have h := g_t h cz
          refine lv_aload_n hx hb dX4_takeIn_52 rfl (lv_at hl 0 rfl) ?_
          refine va_get (D := (dC, dI)) (ci := 4) (v := .ref (ad 1)) (C := RX4) (T := TX4) (N := 5) hx hb hts ki4 hown hK hP 0 rfl rfl 0 (by decide) kf20 (fun _ h9 => h9) rfl dX4_takeIn_53 ?_
          refine va_get (D := (dC, dI)) (ci := 5) (v := .int ((x_iT 4))) (C := RX5) (T := TX5) (N := 6) hx hb hts ki5 hown hK hP 1 rfl rfl 4 (by decide) kf45 (fun _ h9 => h9) rfl dX4_takeIn_56 ?_
          refine lv_iconst (v := 1) hx hb dX4_takeIn_59 (by decide) ?_
          refine lv_icmp_eq (tgt := 136) hx hb dX4_takeIn_60 (by decide) (fun cz => ?_) (fun cz => ?_)
          · have h := g_t h cz
            exact B136 x_iR x_iT x_wT x_iB x_lB x_aB x_iC x_aC H locs ls h hP hD hS (lv_sub hl [0] rfl)
          · have h := g_f h cz
            refine lv_aload_n hx hb dX4_takeIn_63 rfl (lv_at hl 0 rfl) ?_
            refine va_get (D := (dC, dI)) (ci := 4) (v := .ref (ad 1)) (C := RX4) (T := TX4) (N := 5) hx hb hts ki4 hown hK hP 0 rfl rfl 0 (by decide) kf20 (fun _ h9 => h9) rfl dX4_takeIn_64 ?_
            refine va_get (D := (dC, dI)) (ci := 5) (v := .long x_wT) (C := RX5) (T := TX5) (N := 6) hx hb hts ki5 hown hK hP 1 rfl rfl 5 (by decide) kf48 (fun _ h9 => h9) rfl dX4_takeIn_67 ?_
            refine lv_ldc2 (v := 6386539) hx hb hown kc52 dX4_takeIn_70 ?_
            refine W.lcmp hx hb dX4_takeIn_73 ?_
            refine lv_if_ne (tgt := 84) hx hb dX4_takeIn_74 (by decide) (fun cz => ?_) (fun cz => ?_)
            · have h := g_f h (fun z => cz (lg_cmp0.mpr z))
              refine lv_aload_n hx hb dX4_takeIn_84 rfl (lv_at hl 0 rfl) ?_
              refine va_get (D := (dC, dI)) (ci := 4) (v := .ref (ad 1)) (C := RX4) (T := TX4) (N := 5) hx hb hts ki4 hown hK hP 0 rfl rfl 0 (by decide) kf20 (fun _ h9 => h9) rfl dX4_takeIn_85 ?_
              refine va_get (D := (dC, dI)) (ci := 5) (v := .long x_wT) (C := RX5) (T := TX5) (N := 6) hx hb hts ki5 hown hK hP 1 rfl rfl 5 (by decide) kf48 (fun _ h9 => h9) rfl dX4_takeIn_88 ?_
              refine lv_ldc2 (v := 504363246962) hx hb hown kc57 dX4_takeIn_91 ?_
              refine W.lcmp hx hb dX4_takeIn_94 ?_
              refine lv_if_ne (tgt := 105) hx hb dX4_takeIn_95 (by decide) (fun cz => ?_) (fun cz => ?_)
              · have h := g_f h (fun z => cz (lg_cmp0.mpr z))
                refine lv_aload_n hx hb dX4_takeIn_105 rfl (lv_at hl 0 rfl) ?_
                refine va_get (D := (dC, dI)) (ci := 4) (v := .ref (ad 1)) (C := RX4) (T := TX4) (N := 5) hx hb hts ki4 hown hK hP 0 rfl rfl 0 (by decide) kf20 (fun _ h9 => h9) rfl dX4_takeIn_106 ?_
                refine va_get (D := (dC, dI)) (ci := 5) (v := .long x_wT) (C := RX5) (T := TX5) (N := 6) hx hb hts ki5 hown hK hP 1 rfl rfl 5 (by decide) kf48 (fun _ h9 => h9) rfl dX4_takeIn_109 ?_
                refine lv_ldc2 (v := 126896661032037) hx hb hown kc62 dX4_takeIn_112 ?_
                refine W.lcmp hx hb dX4_takeIn_115 ?_
                refine lv_if_ne (tgt := 126) hx hb dX4_takeIn_116 (by decide) (fun cz => ?_) (fun cz => ?_)
                · have h := g_f h (fun z => cz (lg_cmp0.mpr z))
                  refine lv_aload_n hx hb dX4_takeIn_126 rfl (lv_at hl 0 rfl) ?_
                  obtain ⟨q127, e127, h⟩ := g_b h
                  refine callVvs (cc := cX4_takeIn) (w1 := zzR ad cy (ad 3) (ad 10) q127.1 q127.2.1 q127.2.2.1 tx q127.2.2.2.1 q127.2.2.2.2.1 q127.2.2.2.2.2.1 q127.2.2.2.2.2.2.1 q127.2.2.2.2.2.2.2) (As := []) (rest := []) ⟨hx, hb, hml, hown, hts⟩ (c_R_takeRule l dC dI cy ad H.size N x_iR x_iT x_wT tx x_iB x_lB x_aB x_iC x_aC q127 e127) (cwV 0 hts (goodV m_ml_X4_67 m_im_X4_takeRule m_se_X4_takeRule m_in_X4 m_cd_X4_takeRule) rfl rfl rfl (by decide +kernel) ⟨Nat.le_of_ble_eq_true rfl, Nat.le_of_ble_eq_true rfl⟩) hN hK hP hD hS hA rfl 0 rfl rfl rfl hl.1 rfl (Nat.le_of_ble_eq_true rfl) dX4_takeIn_127 ⟨Nat.zero_le _, Nat.zero_le _⟩ (fun H locs hP hD hS => ?_)
                  refine lv_iinc (v := (v3 + (1 : Int32))) (lv' := [(3, .int ((v3 + (1 : Int32)))), (0, .ref (ad 0)), (1, .int v1)]) hx hb dX4_takeIn_130 hl (k := 2) rfl rfl (by decide) rfl (fun ls hl => ?_)
                  refine lv_goto (tgt := 40) hx hb dX4_takeIn_133 (by decide) ?_
                  exact ih v1 ((v3 + (1 : Int32))) q127.1 q127.2.1 q127.2.2.1 q127.2.2.2.1 q127.2.2.2.2.1 q127.2.2.2.2.2.1 q127.2.2.2.2.2.2.1 q127.2.2.2.2.2.2.2 H locs ls h hP hD hS (lv_sub hl [1, 2, 0] rfl)
                · have h := g_t h (lg_cmp0.mp cz)
                  refine lv_aload_n hx hb dX4_takeIn_119 rfl (lv_at hl 0 rfl) ?_
                  obtain ⟨q120, e120, h⟩ := g_b h
                  refine callVvs (cc := cX4_takeIn) (w1 := zzR ad cy (ad 3) (ad 10) (us x_iR [(3, q120.1), (4, q120.2.1)]) (us x_iT [(2, q120.2.2.1), (3, q120.2.2.2.1), (4, q120.2.2.2.2.1)]) q120.2.2.2.2.2.1 tx (us x_iB [(5, q120.2.2.2.2.2.2.1), (7, q120.2.2.2.2.2.2.2.1), (13, q120.2.2.2.2.2.2.2.2.1)]) (us x_lB [(4, q120.2.2.2.2.2.2.2.2.2.1)]) (us x_aB [(6, q120.2.2.2.2.2.2.2.2.2.2)]) x_iC x_aC) (As := []) (rest := []) ⟨hx, hb, hml, hown, hts⟩ (c_R_takeSingle l dC dI cy ad H.size N x_iR x_iT x_wT tx x_iB x_lB x_aB x_iC x_aC q120 e120) (cwV 0 hts (goodV m_ml_X4_64 m_im_X4_takeSingle m_se_X4_takeSingle m_in_X4 m_cd_X4_takeSingle) rfl rfl rfl (by decide +kernel) ⟨Nat.le_of_ble_eq_true rfl, Nat.le_of_ble_eq_true rfl⟩) hN hK hP hD hS hA rfl 0 rfl rfl rfl hl.1 rfl (Nat.le_of_ble_eq_true rfl) dX4_takeIn_120 ⟨Nat.zero_le _, Nat.zero_le _⟩ (fun H locs hP hD hS => ?_)
                  refine lv_goto (tgt := 130) hx hb dX4_takeIn_123 (by decide) ?_
                  refine lv_iinc (v := (v3 + (1 : Int32))) (lv' := [(3, .int ((v3 + (1 : Int32)))), (0, .ref (ad 0)), (1, .int v1)]) hx hb dX4_takeIn_130 hl (k := 2) rfl rfl (by decide) rfl (fun ls hl => ?_)
                  refine lv_goto (tgt := 40) hx hb dX4_takeIn_133 (by decide) ?_
                  exact ih v1 ((v3 + (1 : Int32))) ((us x_iR [(3, q120.1), (4, q120.2.1)])) ((us x_iT [(2, q120.2.2.1), (3, q120.2.2.2.1), (4, q120.2.2.2.2.1)])) q120.2.2.2.2.2.1 ((us x_iB [(5, q120.2.2.2.2.2.2.1), (7, q120.2.2.2.2.2.2.2.1), (13, q120.2.2.2.2.2.2.2.2.1)])) ((us x_lB [(4, q120.2.2.2.2.2.2.2.2.2.1)])) ((us x_aB [(6, q120.2.2.2.2.2.2.2.2.2.2)])) x_iC x_aC H locs ls h hP hD hS (lv_sub hl [1, 2, 0] rfl)
              · have h := g_t h (lg_cmp0.mp cz)
                refine lv_aload_n hx hb dX4_takeIn_98 rfl (lv_at hl 0 rfl) ?_
                obtain ⟨q99, e99, h⟩ := g_b h
                refine callVvs (cc := cX4_takeIn) (w1 := zzR ad cy (ad 3) (ad 10) (us x_iR [(3, q99.1), (4, q99.2.1)]) (us x_iT [(2, q99.2.2.1), (3, q99.2.2.2.1), (4, q99.2.2.2.2.1)]) q99.2.2.2.2.2.1 tx (us x_iB [(5, q99.2.2.2.2.2.2.1), (7, q99.2.2.2.2.2.2.2.1), (14, q99.2.2.2.2.2.2.2.2.1)]) (us x_lB [(4, q99.2.2.2.2.2.2.2.2.2.1)]) (us x_aB [(6, q99.2.2.2.2.2.2.2.2.2.2.1), (12, q99.2.2.2.2.2.2.2.2.2.2.2)]) x_iC x_aC) (As := []) (rest := []) ⟨hx, hb, hml, hown, hts⟩ (c_R_takeOrder l dC dI cy ad H.size N x_iR x_iT x_wT tx x_iB x_lB x_aB x_iC x_aC q99 e99) (cwV 0 hts (goodV m_ml_X4_59 m_im_X4_takeOrder m_se_X4_takeOrder m_in_X4 m_cd_X4_takeOrder) rfl rfl rfl (by decide +kernel) ⟨Nat.le_of_ble_eq_true rfl, Nat.le_of_ble_eq_true rfl⟩) hN hK hP hD hS hA rfl 0 rfl rfl rfl hl.1 rfl (Nat.le_of_ble_eq_true rfl) dX4_takeIn_99 ⟨Nat.zero_le _, Nat.zero_le _⟩ (fun H locs hP hD hS => ?_)
                refine lv_goto (tgt := 130) hx hb dX4_takeIn_102 (by decide) ?_
                refine lv_iinc (v := (v3 + (1 : Int32))) (lv' := [(3, .int ((v3 + (1 : Int32)))), (0, .ref (ad 0)), (1, .int v1)]) hx hb dX4_takeIn_130 hl (k := 2) rfl rfl (by decide) rfl (fun ls hl => ?_)
                refine lv_goto (tgt := 40) hx hb dX4_takeIn_133 (by decide) ?_
                exact ih v1 ((v3 + (1 : Int32))) ((us x_iR [(3, q99.1), (4, q99.2.1)])) ((us x_iT [(2, q99.2.2.1), (3, q99.2.2.2.1), (4, q99.2.2.2.2.1)])) q99.2.2.2.2.2.1 ((us x_iB [(5, q99.2.2.2.2.2.2.1), (7, q99.2.2.2.2.2.2.2.1), (14, q99.2.2.2.2.2.2.2.2.1)])) ((us x_lB [(4, q99.2.2.2.2.2.2.2.2.2.1)])) ((us x_aB [(6, q99.2.2.2.2.2.2.2.2.2.2.1), (12, q99.2.2.2.2.2.2.2.2.2.2.2)])) x_iC x_aC H locs ls h hP hD hS (lv_sub hl [1, 2, 0] rfl)
            · have h := g_t h (lg_cmp0.mp cz)
              refine lv_aload_n hx hb dX4_takeIn_77 rfl (lv_at hl 0 rfl) ?_
              obtain ⟨q78, e78, h⟩ := g_b h
              refine callVvs (cc := cX4_takeIn) (w1 := zzR ad cy (ad 3) (ad 10) q78.1 q78.2.1 q78.2.2.1 tx q78.2.2.2.1 q78.2.2.2.2.1 q78.2.2.2.2.2.1 q78.2.2.2.2.2.2.1 q78.2.2.2.2.2.2.2) (As := []) (rest := []) ⟨hx, hb, hml, hown, hts⟩ (c_R_takeQuestion l dC dI cy ad H.size N x_iR x_iT x_wT tx x_iB x_lB x_aB x_iC x_aC q78 e78) (cwV 0 hts (goodV m_ml_X4_54 m_im_X4_takeQuestion m_se_X4_takeQuestion m_in_X4 m_cd_X4_takeQuestion) rfl rfl rfl (by decide +kernel) ⟨Nat.le_of_ble_eq_true rfl, Nat.le_of_ble_eq_true rfl⟩) hN hK hP hD hS hA rfl 0 rfl rfl rfl hl.1 rfl (Nat.le_of_ble_eq_true rfl) dX4_takeIn_78 ⟨Nat.zero_le _, Nat.zero_le _⟩ (fun H locs hP hD hS => ?_)
              refine lv_goto (tgt := 130) hx hb dX4_takeIn_81 (by decide) ?_
              refine lv_iinc (v := (v3 + (1 : Int32))) (lv' := [(3, .int ((v3 + (1 : Int32)))), (0, .ref (ad 0)), (1, .int v1)]) hx hb dX4_takeIn_130 hl (k := 2) rfl rfl (by decide) rfl (fun ls hl => ?_)
              refine lv_goto (tgt := 40) hx hb dX4_takeIn_133 (by decide) ?_
              exact ih v1 ((v3 + (1 : Int32))) q78.1 q78.2.1 q78.2.2.1 q78.2.2.2.1 q78.2.2.2.2.1 q78.2.2.2.2.2.1 q78.2.2.2.2.2.2.1 q78.2.2.2.2.2.2.2 H locs ls h hP hD hS (lv_sub hl [1, 2, 0] rfl)
  intro H locs hP hD hS
  unfold f_R_takeIn at h
  refine lv_aload_n hx hb dX4_takeIn_0 rfl (lv_at hl 0 rfl) ?_
  refine lv_aload_n hx hb dX4_takeIn_1 rfl (lv_at hl 2 rfl) ?_
  refine va_put (D := (dC, dI)) (ci := 4) (v := .ref (ad 3)) (ty := (.object "TypeCourt$Book")) (C := RX4) (T := TX4) (N := 5) hx hb hts ki4 tyX4 tyX4_ok nmX4 hown hK hP hD hS 0 rfl rfl 1 (by decide) kf24 (fun _ h9 => h9) rfl (by decide +kernel) rfl rfl (Nat.le_of_ble_eq_true rfl) dX4_takeIn_2 (fun H locs hP hD hS => ?_)
  have hP : va_P (dC, dI) vwCl (zzR ad cy (ad 3) rc iR iT wT tx iB lB aB iC aC) H := hP
  have hD : va_D A (zzR ad cy (ad 3) rc iR iT wT tx iB lB aB iC aC) := hD
  refine lv_aload_n hx hb dX4_takeIn_5 rfl (lv_at hl 0 rfl) ?_
  refine lv_aload_n hx hb dX4_takeIn_6 rfl (lv_at hl 2 rfl) ?_
  refine va_get (D := (dC, dI)) (ci := 0) (v := .ref (ad 10)) (C := RX0) (T := TX0) (N := 15) hx hb hts ki0 hown hK hP 3 rfl rfl 0 (by decide) kf28 (fun _ h9 => h9) rfl dX4_takeIn_7 ?_
  refine va_put (D := (dC, dI)) (ci := 4) (v := .ref (ad 10)) (ty := (.object "TypeCourt$Concepts")) (C := RX4) (T := TX4) (N := 5) hx hb hts ki4 tyX4 tyX4_ok nmX4 hown hK hP hD hS 0 rfl rfl 2 (by decide) kf34 (fun _ h9 => h9) rfl (by decide +kernel) rfl rfl (Nat.le_of_ble_eq_true rfl) dX4_takeIn_10 (fun H locs hP hD hS => ?_)
  have hP : va_P (dC, dI) vwCl (zzR ad cy (ad 3) (ad 10) iR iT wT tx iB lB aB iC aC) H := hP
  have hD : va_D A (zzR ad cy (ad 3) (ad 10) iR iT wT tx iB lB aB iC aC) := hD
  refine lv_aload_n hx hb dX4_takeIn_13 rfl (lv_at hl 0 rfl) ?_
  refine va_get (D := (dC, dI)) (ci := 4) (v := .ref (ad 3)) (C := RX4) (T := TX4) (N := 5) hx hb hts ki4 hown hK hP 0 rfl rfl 1 (by decide) kf24 (fun _ h9 => h9) rfl dX4_takeIn_14 ?_
  obtain ⟨q17, e17, h⟩ := g_b h
  refine callVv (cc := cX4_takeIn) (ws' := zzR ad cy (ad 3) (ad 10) iR iT wT tx (us iB [(1, q17.1), (3, q17.2.1), (5, q17.2.2.1), (7, q17.2.2.2.1), (9, q17.2.2.2.2.1), (11, q17.2.2.2.2.2.1), (13, q17.2.2.2.2.2.2.1), (14, q17.2.2.2.2.2.2.2.1)]) lB (us aB [(12, q17.2.2.2.2.2.2.2.2.1)]) (us iC [(4, q17.2.2.2.2.2.2.2.2.2.1), (9, q17.2.2.2.2.2.2.2.2.2.2)]) aC) (As := []) (rest := []) ⟨hx, hb, hml, hown, hts⟩ (c_B_clear l dC dI cy (fun i => ad (i + 3)) H.size N iB lB aB iC aC q17 e17) (cwV 0 hts (goodV m_ml_X4_35 m_im_X0_clear m_se_X0_clear m_in_X0 m_cd_X0_clear) rfl rfl rfl (by decide +kernel) ⟨Nat.le_of_ble_eq_true rfl, Nat.le_of_ble_eq_true rfl⟩) hN hK hP hD hS hA [3, 4, 5, 6, 7, 8, 9, 10, 11, 12, 13, 14, 15, 16, 17, 18] [none, none, none, some 0, some 1, some 2, some 3, some 4, some 5, some 6, some 7, some 8, some 9, some 10, some 11, some 12, some 13, some 14, some 15] rfl rfl rfl rfl rfl rfl 3 rfl rfl rfl hl.1 rfl (Nat.le_of_ble_eq_true rfl) dX4_takeIn_17 ⟨Nat.zero_le _, Nat.zero_le _⟩ (fun H locs hP hD hS => ?_)
  refine lv_aload_n hx hb dX4_takeIn_20 rfl (lv_at hl 0 rfl) ?_
  refine lv_iconst (v := 0) hx hb dX4_takeIn_21 (by decide) ?_
  refine va_put (D := (dC, dI)) (ci := 4) (v := .int ((0 : Int32))) (ty := .int) (C := RX4) (T := TX4) (N := 5) hx hb hts ki4 tyX4 tyX4_ok nmX4 hown hK hP hD hS 0 rfl rfl 3 (by decide) kf38 (fun _ h9 => h9) rfl (by decide +kernel) rfl rfl (Nat.le_of_ble_eq_true rfl) dX4_takeIn_22 (fun H locs hP hD hS => ?_)
  have hP : va_P (dC, dI) vwCl (zzR ad cy (ad 3) (ad 10) (us iR [(3, (0 : Int32))]) iT wT tx (us iB [(1, q17.1), (3, q17.2.1), (5, q17.2.2.1), (7, q17.2.2.2.1), (9, q17.2.2.2.2.1), (11, q17.2.2.2.2.2.1), (13, q17.2.2.2.2.2.2.1), (14, q17.2.2.2.2.2.2.2.1)]) lB (us aB [(12, q17.2.2.2.2.2.2.2.2.1)]) (us iC [(4, q17.2.2.2.2.2.2.2.2.2.1), (9, q17.2.2.2.2.2.2.2.2.2.2)]) aC) H := Eq.mp (congrArg (fun w => va_P (dC, dI) vwCl w H) (sfR_iR3 ad cy (ad 3) (ad 10) iR iT wT tx (us iB [(1, q17.1), (3, q17.2.1), (5, q17.2.2.1), (7, q17.2.2.2.1), (9, q17.2.2.2.2.1), (11, q17.2.2.2.2.2.1), (13, q17.2.2.2.2.2.2.1), (14, q17.2.2.2.2.2.2.2.1)]) lB (us aB [(12, q17.2.2.2.2.2.2.2.2.1)]) (us iC [(4, q17.2.2.2.2.2.2.2.2.2.1), (9, q17.2.2.2.2.2.2.2.2.2.2)]) aC ((0 : Int32)))) hP
  have hD : va_D A (zzR ad cy (ad 3) (ad 10) (us iR [(3, (0 : Int32))]) iT wT tx (us iB [(1, q17.1), (3, q17.2.1), (5, q17.2.2.1), (7, q17.2.2.2.1), (9, q17.2.2.2.2.1), (11, q17.2.2.2.2.2.1), (13, q17.2.2.2.2.2.2.1), (14, q17.2.2.2.2.2.2.2.1)]) lB (us aB [(12, q17.2.2.2.2.2.2.2.2.1)]) (us iC [(4, q17.2.2.2.2.2.2.2.2.2.1), (9, q17.2.2.2.2.2.2.2.2.2.2)]) aC) := Eq.mp (congrArg (fun w => va_D A w) (sfR_iR3 ad cy (ad 3) (ad 10) iR iT wT tx (us iB [(1, q17.1), (3, q17.2.1), (5, q17.2.2.1), (7, q17.2.2.2.1), (9, q17.2.2.2.2.1), (11, q17.2.2.2.2.2.1), (13, q17.2.2.2.2.2.2.1), (14, q17.2.2.2.2.2.2.2.1)]) lB (us aB [(12, q17.2.2.2.2.2.2.2.2.1)]) (us iC [(4, q17.2.2.2.2.2.2.2.2.2.1), (9, q17.2.2.2.2.2.2.2.2.2.2)]) aC ((0 : Int32)))) hD
  refine lv_aload_n hx hb dX4_takeIn_25 rfl (lv_at hl 0 rfl) ?_
  refine lv_iconst (v := (-1)) hx hb dX4_takeIn_26 (by decide) ?_
  refine va_put (D := (dC, dI)) (ci := 4) (v := .int ((-1 : Int32))) (ty := .int) (C := RX4) (T := TX4) (N := 5) hx hb hts ki4 tyX4 tyX4_ok nmX4 hown hK hP hD hS 0 rfl rfl 4 (by decide) kf9 (fun _ h9 => h9) rfl (by decide +kernel) rfl rfl (Nat.le_of_ble_eq_true rfl) dX4_takeIn_27 (fun H locs hP hD hS => ?_)
  have hP : va_P (dC, dI) vwCl (zzR ad cy (ad 3) (ad 10) (us iR [(3, (0 : Int32)), (4, (-1 : Int32))]) iT wT tx (us iB [(1, q17.1), (3, q17.2.1), (5, q17.2.2.1), (7, q17.2.2.2.1), (9, q17.2.2.2.2.1), (11, q17.2.2.2.2.2.1), (13, q17.2.2.2.2.2.2.1), (14, q17.2.2.2.2.2.2.2.1)]) lB (us aB [(12, q17.2.2.2.2.2.2.2.2.1)]) (us iC [(4, q17.2.2.2.2.2.2.2.2.2.1), (9, q17.2.2.2.2.2.2.2.2.2.2)]) aC) H := Eq.mp (congrArg (fun w => va_P (dC, dI) vwCl w H) (stR_iR4 ad cy (ad 3) (ad 10) iR iT wT tx (us iB [(1, q17.1), (3, q17.2.1), (5, q17.2.2.1), (7, q17.2.2.2.1), (9, q17.2.2.2.2.1), (11, q17.2.2.2.2.2.1), (13, q17.2.2.2.2.2.2.1), (14, q17.2.2.2.2.2.2.2.1)]) lB (us aB [(12, q17.2.2.2.2.2.2.2.2.1)]) (us iC [(4, q17.2.2.2.2.2.2.2.2.2.1), (9, q17.2.2.2.2.2.2.2.2.2.2)]) aC [(3, (0 : Int32))] ((-1 : Int32)))) hP
  have hD : va_D A (zzR ad cy (ad 3) (ad 10) (us iR [(3, (0 : Int32)), (4, (-1 : Int32))]) iT wT tx (us iB [(1, q17.1), (3, q17.2.1), (5, q17.2.2.1), (7, q17.2.2.2.1), (9, q17.2.2.2.2.1), (11, q17.2.2.2.2.2.1), (13, q17.2.2.2.2.2.2.1), (14, q17.2.2.2.2.2.2.2.1)]) lB (us aB [(12, q17.2.2.2.2.2.2.2.2.1)]) (us iC [(4, q17.2.2.2.2.2.2.2.2.2.1), (9, q17.2.2.2.2.2.2.2.2.2.2)]) aC) := Eq.mp (congrArg (fun w => va_D A w) (stR_iR4 ad cy (ad 3) (ad 10) iR iT wT tx (us iB [(1, q17.1), (3, q17.2.1), (5, q17.2.2.1), (7, q17.2.2.2.1), (9, q17.2.2.2.2.1), (11, q17.2.2.2.2.2.1), (13, q17.2.2.2.2.2.2.1), (14, q17.2.2.2.2.2.2.2.1)]) lB (us aB [(12, q17.2.2.2.2.2.2.2.2.1)]) (us iC [(4, q17.2.2.2.2.2.2.2.2.2.1), (9, q17.2.2.2.2.2.2.2.2.2.2)]) aC [(3, (0 : Int32))] ((-1 : Int32)))) hD
  refine lv_aload_n hx hb dX4_takeIn_30 rfl (lv_at hl 0 rfl) ?_
  refine va_get (D := (dC, dI)) (ci := 4) (v := .ref (ad 1)) (C := RX4) (T := TX4) (N := 5) hx hb hts ki4 hown hK hP 0 rfl rfl 0 (by decide) kf20 (fun _ h9 => h9) rfl dX4_takeIn_31 ?_
  refine lv_iload_n hx hb dX4_takeIn_34 rfl (lv_at hl 1 rfl) ?_
  obtain ⟨q35, e35, h⟩ := g_b h
  refine callVv (cc := cX4_takeIn) (ws' := zzR ad cy (ad 3) (ad 10) (us iR [(3, (0 : Int32)), (4, (-1 : Int32))]) (us iT [(1, q35.1), (2, q35.2.1), (3, q35.2.2.1), (4, q35.2.2.2.1)]) q35.2.2.2.2 tx (us iB [(1, q17.1), (3, q17.2.1), (5, q17.2.2.1), (7, q17.2.2.2.1), (9, q17.2.2.2.2.1), (11, q17.2.2.2.2.2.1), (13, q17.2.2.2.2.2.2.1), (14, q17.2.2.2.2.2.2.2.1)]) lB (us aB [(12, q17.2.2.2.2.2.2.2.2.1)]) (us iC [(4, q17.2.2.2.2.2.2.2.2.2.1), (9, q17.2.2.2.2.2.2.2.2.2.2)]) aC) (As := [.int a1]) (rest := []) ⟨hx, hb, hml, hown, hts⟩ (c_T_start l dC dI cy (fun i => ad (i + 1)) H.size N a1 iT wT tx q35 e35) (cwV 1 hts (goodV m_ml_X4_41 m_im_X5_start m_se_X5_start m_in_X5 m_cd_X5_start) rfl rfl rfl (by decide +kernel) ⟨Nat.le_of_ble_eq_true rfl, Nat.le_of_ble_eq_true rfl⟩) hN hK hP hD hS hA [1, 2] [none, some 0, some 1, none, none, none, none, none, none, none, none, none, none, none, none, none, none, none, none] rfl rfl rfl rfl rfl rfl 1 rfl rfl rfl hl.1 rfl (Nat.le_of_ble_eq_true rfl) dX4_takeIn_35 ⟨Nat.zero_le _, Nat.zero_le _⟩ (fun H locs hP hD hS => ?_)
  refine lv_iconst (v := 0) hx hb dX4_takeIn_38 (by decide) ?_
  refine lv_istore_n (lv' := [(3, .int ((0 : Int32))), (0, .ref (ad 0)), (1, .int a1), (2, .ref (ad 3))]) hx hb dX4_takeIn_39 rfl hl (by decide) rfl (fun ls hl => ?_)
  exact B40 N a1 ((0 : Int32)) ((us iR [(3, (0 : Int32)), (4, (-1 : Int32))])) ((us iT [(1, q35.1), (2, q35.2.1), (3, q35.2.2.1), (4, q35.2.2.2.1)])) q35.2.2.2.2 ((us iB [(1, q17.1), (3, q17.2.1), (5, q17.2.2.1), (7, q17.2.2.2.1), (9, q17.2.2.2.2.1), (11, q17.2.2.2.2.2.1), (13, q17.2.2.2.2.2.2.1), (14, q17.2.2.2.2.2.2.2.1)])) lB ((us aB [(12, q17.2.2.2.2.2.2.2.2.1)])) ((us iC [(4, q17.2.2.2.2.2.2.2.2.2.1), (9, q17.2.2.2.2.2.2.2.2.2.2)])) aC H locs ls h hP hD hS (lv_sub hl [1, 2, 0] rfl)
