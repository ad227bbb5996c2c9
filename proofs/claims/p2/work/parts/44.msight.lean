abbrev w_X6_sight (G : XG) (ko : Nat) (ad : Nat → Nat) (w h la tp : Nat) (ft tr : Int32) (mv : Nat → Int32) (mk : Nat → Int32) : va_W := [oC ko 6 [.ref (ad 0), .ref (ad 1), .int (nI w), .int (nI h), .int (nI la), .ref (ad 2), .int (mv 0), .int (mv 1), .int (mv 2), .int (mv 3), .int (mv 4), .int (mv 5), .int (mv 6), .ref (ad 3), .int (nI tp), .int (mv 7), .int (mv 8), .int (mv 9), .int (mv 10), .int ft, .int (mv 11), .ref (ad 4), .ref (ad 5), .ref (ad 6), .ref (ad 7), .ref (ad 8), .ref (ad 9), .ref (ad 10), .int tr], iA G (ad 4) 16 mk]
abbrev Q_X6_sight (G : XG) (ko : Nat) (ad : Nat → Nat) (w h la tp : Nat) (ft tr : Int32) (mv : Nat → Int32) (mk : Nat → Int32) (x : Nat) : Array Value → State → Outcome → State → Prop := (xRi (fun r => r = sgF w h mk x))
set_option maxHeartbeats 4000000 in
set_option maxRecDepth 100000 in
theorem c_X6_sight (l : Launch) (G : XG) (ko : Nat) (ad : Nat → Nat) (w h la tp : Nat) (ft tr : Int32) (mv : Nat → Int32) (mk : Nat → Int32) (x : Nat) (hw : 1 ≤ w) (hwb : w ≤ 16) (hhb : h ≤ 16) (hwh : w * h ≤ 16) (hxx : x < w * h) : Met l yX6_sight wsX6_sight ({ frames := 2, cells := 0, slots := 0, locals := 42 } : Room) (va_Pc [.ref ko, .int (nI x)] (xRp G (w_X6_sight G ko ad w h la tp ft tr mv mk))) (Q_X6_sight G ko ad w h la tp ft tr mv mk x) 0 0 (fun _ => False) := by
  refine Met.ofW (cc := cX6_sight) (maxL := 6) (ret := (some .int)) (by decide) rfl ?_
  intro pp ee ss mm aa below mt cd s₁ BB hml hv
  obtain ⟨rfl, hP, hK⟩ := hv
  have hx := BB.exec
  have hb := BB.bytes
  have hr := BB.returns
  have hts := atoms_spec (ws := wsX6_sight) BB.pre
  have hown : ss.vm.findClass RX6 = some mm.cls := findClass_of_methodNamed BB.named
  have hlocks := BB.notSynchronized
  have hS : va_S (fun _ => False) ss.heap ss.heap [] := va_S.rf
  replace hP : xP G [oC ko 6 [.ref (ad 0), .ref (ad 1), .int (nI w), .int (nI h), .int (nI la), .ref (ad 2), .int (mv 0), .int (mv 1), .int (mv 2), .int (mv 3), .int (mv 4), .int (mv 5), .int (mv 6), .ref (ad 3), .int (nI tp), .int (mv 7), .int (mv 8), .int (mv 9), .int (mv 10), .int ft, .int (mv 11), .ref (ad 4), .ref (ad 5), .ref (ad 6), .ref (ad 7), .ref (ad 8), .ref (ad 9), .ref (ad 10), .int tr], iA G (ad 4) 16 mk] ss.heap := hP
  have hin6 : ∀ w ∈ u_ws RX6 TX6 29, w ∈ wsX6_sight := fun w h => List.mem_cons_of_mem _ (List.mem_append_right _ h)
  have hl := lv_entry ([.ref ko, .int (nI x)]) (n := 6) (Nat.le_of_ble_eq_true rfl)
  rw [lg_entry_eq]
  generalize (lg_sl ([.ref ko, .int (nI x)]) ++ List.replicate (6 - (lg_sl ([.ref ko, .int (nI x)])).length) Slot.unset).toArray = ls at hl ⊢
  replace hl : lv_has ls 6 [(0, .ref ko), (1, .int (nI x))] := hl
  obtain ⟨e1, e2, e3⟩ := xs_div (w := w) (h := h) (x := x) (by omega) hxx
  have e4 := Nat.div_le_self x w
  have e5 := Nat.zero_le (x / w)
  refine lv_iconst (v := nI 1) hx hb dX6_sight_0 (by decide) ?_
  refine lv_iload_n hx hb dX6_sight_1 rfl (lv_at hl 1 rfl) ?_
  refine lv_ishl hx hb dX6_sight_2 ?_
  refine lv_istore_n (lv' := [(2, .int ((nI 1) <<< ((nI x) &&& 31))), (0, .ref ko), (1, .int (nI x))]) hx hb dX6_sight_3 rfl hl (by decide) rfl (fun ls hl => ?_)
  refine lv_iconst (v := nI 0) hx hb dX6_sight_4 (by decide) ?_
  refine lv_istore_n (lv' := [(3, .int (nI 0)), (2, .int ((nI 1) <<< ((nI x) &&& 31))), (0, .ref ko), (1, .int (nI x))]) hx hb dX6_sight_5 rfl hl (by decide) rfl (fun ls hl => ?_)
  refine lv_iload_n hx hb dX6_sight_6 rfl (lv_at hl 0 rfl) ?_
  refine lv_iconst (v := nI 4) hx hb dX6_sight_7 (by decide) ?_
  refine xn_icmp_ge (tgt := 96) hx hb (by omega) (by omega) dX6_sight_8 rfl (fun b8 => absurd b8 (by omega)) (fun _ => ?_)
  refine lv_aload_n hx hb dX6_sight_11 rfl (lv_at hl 2 rfl) ?_
  refine lv_iload_n hx hb dX6_sight_12 rfl (lv_at hl 3 rfl) ?_
  refine lv_iload_n hx hb dX6_sight_13 rfl (lv_at hl 0 rfl) ?_
  refine xr_i (As := [.int (nI x), .int (nI 0)]) (rest := []) ⟨hx, hb, hml, hown, hts⟩ (c_X6_beside_0 l G ko ad w h la tp ft tr mv x (by first | assumption | omega) (by first | assumption | omega) (by first | assumption | omega) (by first | assumption | omega)) (cwV 2 hts gX6_sight_X6_beside rfl rfl rfl (by decide +kernel) ⟨Nat.le_of_ble_eq_true rfl, Nat.le_of_ble_eq_true rfl⟩) hK hP hS [0] rfl rfl rfl rfl hl.1 rfl (Nat.le_of_ble_eq_true rfl) dX6_sight_14 ⟨Nat.zero_le _, Nat.zero_le _⟩ (fun r14 H locs hp14 hP hS => ?_)
  rw [show r14 = _ from hp14]
  refine lv_istore (lv' := [(4, .int (if w ≤ x then nI (x - w) else (-4))), (3, .int (nI 0)), (2, .int ((nI 1) <<< ((nI x) &&& 31))), (0, .ref ko), (1, .int (nI x))]) hx hb dX6_sight_17 hl (by decide) rfl (fun ls hl => ?_)
  have hL19 : ∀ k : Nat, ∀ (i0 : Nat) (acc0 : Int32) (cv0 : Int32) (ls : Array Slot) (H : Heap) (locs : List Loc), x / w + 1 - i0 = k → (1 ≤ i0) → (i0 ≤ x / w + 1) → (cv0 = (if i0 ≤ x / w then nI (x - i0 * w) else (-4))) → (rayF mk (fun i => x - i * w) (nI 1) (x / w) (1) ((nI 1) <<< ((nI x) &&& 31)) = rayF mk (fun i => x - i * w) (nI 1) (x / w + 1 - i0) (i0) (acc0)) → lv_has ls 6 [(0, .ref ko), (1, .int (nI x)), (2, .int acc0), (3, .int (nI 0)), (4, .int cv0)] → xP G [iA G (ad 4) 16 mk, oC ko 6 [.ref (ad 0), .ref (ad 1), .int (nI w), .int (nI h), .int (nI la), .ref (ad 2), .int (mv 0), .int (mv 1), .int (mv 2), .int (mv 3), .int (mv 4), .int (mv 5), .int (mv 6), .ref (ad 3), .int (nI tp), .int (mv 7), .int (mv 8), .int (mv 9), .int (mv 10), .int ft, .int (mv 11), .ref (ad 4), .ref (ad 5), .ref (ad 6), .ref (ad 7), .ref (ad 8), .ref (ad 9), .ref (ad 10), .int tr]] H → va_S (fun _ => False) ss.heap H locs → W pp l ee ({ frames := 2, cells := 0, slots := 0, locals := 42 } : Room) ss mm ([.ref ko, .int (nI x)] : List Value).toArray below mt cd H locs 0 0 (MQ below (Q_X6_sight G ko ad w h la tp ft tr mv mk x) ([.ref ko, .int (nI x)] : List Value).toArray ss 0 0 (fun _ => False)) (F0 mm 19 ls []) := by
    intro k
    induction k using Nat.strongRecOn with
    | _ k ih19 =>
    intro i0 acc0 cv0 ls H locs hm19 h10 hi0 hcv0 hr0 hl hP hS
    refine lv_iload hx hb dX6_sight_19 (lv_at hl 4 rfl) ?_
    refine lv_bipush (v := (-4)) hx hb dX6_sight_21 (by decide) ?_
    refine lv_icmp_eq (tgt := 90) hx hb dX6_sight_23 rfl (fun b23 => ?_) (fun b23 => ?_)
    · skip
      have hend0 : rayF mk (fun i => x - i * w) (nI 1) (x / w) (1) ((nI 1) <<< ((nI x) &&& 31)) = acc0 := (by rw [hr0]; exact rayF_end (fun q => by rw [hcv0, if_pos q] at b23; exact nI_n4 (by omega) b23))
      refine lv_iinc (k := 3) (v := nI 1) (lv' := [(3, .int (nI 1)), (0, .ref ko), (1, .int (nI x)), (2, .int acc0), (4, .int cv0)]) hx hb dX6_sight_90 hl rfl (xn_inc 0 1) (by decide) rfl (fun ls hl => ?_)
      refine lv_goto (tgt := 6) hx hb dX6_sight_93 rfl ?_
      refine lv_iload_n hx hb dX6_sight_6 rfl (lv_at hl 0 rfl) ?_
      refine lv_iconst (v := nI 4) hx hb dX6_sight_7 (by decide) ?_
      refine xn_icmp_ge (tgt := 96) hx hb (by omega) (by omega) dX6_sight_8 rfl (fun b8 => absurd b8 (by omega)) (fun _ => ?_)
      refine lv_aload_n hx hb dX6_sight_11 rfl (lv_at hl 1 rfl) ?_
      refine lv_iload_n hx hb dX6_sight_12 rfl (lv_at hl 2 rfl) ?_
      refine lv_iload_n hx hb dX6_sight_13 rfl (lv_at hl 0 rfl) ?_
      refine xr_i (As := [.int (nI x), .int (nI 1)]) (rest := []) ⟨hx, hb, hml, hown, hts⟩ (c_X6_beside_1 l G ko ad w h la tp ft tr mv x (by first | assumption | omega) (by first | assumption | omega) (by first | assumption | omega) (by first | assumption | omega)) (cwV 2 hts gX6_sight_X6_beside rfl rfl rfl (by decide +kernel) ⟨Nat.le_of_ble_eq_true rfl, Nat.le_of_ble_eq_true rfl⟩) hK hP hS [1] rfl rfl rfl rfl hl.1 rfl (Nat.le_of_ble_eq_true rfl) dX6_sight_14 ⟨Nat.zero_le _, Nat.zero_le _⟩ (fun r14 H locs hp14 hP hS => ?_)
      rw [show r14 = _ from hp14]
      refine lv_istore (lv' := [(4, .int (if w ≤ x % w + 1 then (-4) else nI (x + 1))), (3, .int (nI 1)), (0, .ref ko), (1, .int (nI x)), (2, .int acc0)]) hx hb dX6_sight_17 hl (by decide) rfl (fun ls hl => ?_)
      have hL19 : ∀ k : Nat, ∀ (i1 : Nat) (acc1 : Int32) (cv1 : Int32) (ls : Array Slot) (H : Heap) (locs : List Loc), w - 1 - (x - x / w * w) + 1 - i1 = k → (1 ≤ i1) → (i1 ≤ w - 1 - (x - x / w * w) + 1) → (cv1 = (if i1 ≤ w - 1 - (x - x / w * w) then nI (x + i1) else (-4))) → (rayF mk (fun i => x + i) (nI 0) (w - 1 - (x - x / w * w)) (1) (acc0) = rayF mk (fun i => x + i) (nI 0) (w - 1 - (x - x / w * w) + 1 - i1) (i1) (acc1)) → lv_has ls 6 [(0, .ref ko), (1, .int (nI x)), (2, .int acc1), (3, .int (nI 1)), (4, .int cv1)] → xP G [iA G (ad 4) 16 mk, oC ko 6 [.ref (ad 0), .ref (ad 1), .int (nI w), .int (nI h), .int (nI la), .ref (ad 2), .int (mv 0), .int (mv 1), .int (mv 2), .int (mv 3), .int (mv 4), .int (mv 5), .int (mv 6), .ref (ad 3), .int (nI tp), .int (mv 7), .int (mv 8), .int (mv 9), .int (mv 10), .int ft, .int (mv 11), .ref (ad 4), .ref (ad 5), .ref (ad 6), .ref (ad 7), .ref (ad 8), .ref (ad 9), .ref (ad 10), .int tr]] H → va_S (fun _ => False) ss.heap H locs → W pp l ee ({ frames := 2, cells := 0, slots := 0, locals := 42 } : Room) ss mm ([.ref ko, .int (nI x)] : List Value).toArray below mt cd H locs 0 0 (MQ below (Q_X6_sight G ko ad w h la tp ft tr mv mk x) ([.ref ko, .int (nI x)] : List Value).toArray ss 0 0 (fun _ => False)) (F0 mm 19 ls []) := by
        intro k
        induction k using Nat.strongRecOn with
        | _ k ih19 =>
        intro i1 acc1 cv1 ls H locs hm19 h11 hi1 hcv1 hr1 hl hP hS
        refine lv_iload hx hb dX6_sight_19 (lv_at hl 4 rfl) ?_
        refine lv_bipush (v := (-4)) hx hb dX6_sight_21 (by decide) ?_
        refine lv_icmp_eq (tgt := 90) hx hb dX6_sight_23 rfl (fun b23 => ?_) (fun b23 => ?_)
        · skip
          have hend1 : rayF mk (fun i => x + i) (nI 0) (w - 1 - (x - x / w * w)) (1) (acc0) = acc1 := (by rw [hr1]; exact rayF_end (fun q => by rw [hcv1, if_pos q] at b23; exact nI_n4 (by have := xs_right (w := w) (h := h) (x := x) (i := i1) (by omega) hxx q; omega) b23))
          refine lv_iinc (k := 3) (v := nI 2) (lv' := [(3, .int (nI 2)), (0, .ref ko), (1, .int (nI x)), (2, .int acc1), (4, .int cv1)]) hx hb dX6_sight_90 hl rfl (xn_inc 1 1) (by decide) rfl (fun ls hl => ?_)
          refine lv_goto (tgt := 6) hx hb dX6_sight_93 rfl ?_
          refine lv_iload_n hx hb dX6_sight_6 rfl (lv_at hl 0 rfl) ?_
          refine lv_iconst (v := nI 4) hx hb dX6_sight_7 (by decide) ?_
          refine xn_icmp_ge (tgt := 96) hx hb (by omega) (by omega) dX6_sight_8 rfl (fun b8 => absurd b8 (by omega)) (fun _ => ?_)
          refine lv_aload_n hx hb dX6_sight_11 rfl (lv_at hl 1 rfl) ?_
          refine lv_iload_n hx hb dX6_sight_12 rfl (lv_at hl 2 rfl) ?_
          refine lv_iload_n hx hb dX6_sight_13 rfl (lv_at hl 0 rfl) ?_
          refine xr_i (As := [.int (nI x), .int (nI 2)]) (rest := []) ⟨hx, hb, hml, hown, hts⟩ (c_X6_beside_2 l G ko ad w h la tp ft tr mv x (by first | assumption | omega) (by first | assumption | omega) (by first | assumption | omega) (by first | assumption | omega)) (cwV 2 hts gX6_sight_X6_beside rfl rfl rfl (by decide +kernel) ⟨Nat.le_of_ble_eq_true rfl, Nat.le_of_ble_eq_true rfl⟩) hK hP hS [1] rfl rfl rfl rfl hl.1 rfl (Nat.le_of_ble_eq_true rfl) dX6_sight_14 ⟨Nat.zero_le _, Nat.zero_le _⟩ (fun r14 H locs hp14 hP hS => ?_)
          rw [show r14 = _ from hp14]
          refine lv_istore (lv' := [(4, .int (if w * h ≤ x + w then (-4) else nI (x + w))), (3, .int (nI 2)), (0, .ref ko), (1, .int (nI x)), (2, .int acc1)]) hx hb dX6_sight_17 hl (by decide) rfl (fun ls hl => ?_)
          have hL19 : ∀ k : Nat, ∀ (i2 : Nat) (acc2 : Int32) (cv2 : Int32) (ls : Array Slot) (H : Heap) (locs : List Loc), h - 1 - x / w + 1 - i2 = k → (1 ≤ i2) → (i2 ≤ h - 1 - x / w + 1) → (cv2 = (if i2 ≤ h - 1 - x / w then nI (x + i2 * w) else (-4))) → (rayF mk (fun i => x + i * w) (nI 1) (h - 1 - x / w) (1) (acc1) = rayF mk (fun i => x + i * w) (nI 1) (h - 1 - x / w + 1 - i2) (i2) (acc2)) → lv_has ls 6 [(0, .ref ko), (1, .int (nI x)), (2, .int acc2), (3, .int (nI 2)), (4, .int cv2)] → xP G [iA G (ad 4) 16 mk, oC ko 6 [.ref (ad 0), .ref (ad 1), .int (nI w), .int (nI h), .int (nI la), .ref (ad 2), .int (mv 0), .int (mv 1), .int (mv 2), .int (mv 3), .int (mv 4), .int (mv 5), .int (mv 6), .ref (ad 3), .int (nI tp), .int (mv 7), .int (mv 8), .int (mv 9), .int (mv 10), .int ft, .int (mv 11), .ref (ad 4), .ref (ad 5), .ref (ad 6), .ref (ad 7), .ref (ad 8), .ref (ad 9), .ref (ad 10), .int tr]] H → va_S (fun _ => False) ss.heap H locs → W pp l ee ({ frames := 2, cells := 0, slots := 0, locals := 42 } : Room) ss mm ([.ref ko, .int (nI x)] : List Value).toArray below mt cd H locs 0 0 (MQ below (Q_X6_sight G ko ad w h la tp ft tr mv mk x) ([.ref ko, .int (nI x)] : List Value).toArray ss 0 0 (fun _ => False)) (F0 mm 19 ls []) := by
            intro k
            induction k using Nat.strongRecOn with
            | _ k ih19 =>
            intro i2 acc2 cv2 ls H locs hm19 h12 hi2 hcv2 hr2 hl hP hS
            refine lv_iload hx hb dX6_sight_19 (lv_at hl 4 rfl) ?_
            refine lv_bipush (v := (-4)) hx hb dX6_sight_21 (by decide) ?_
            refine lv_icmp_eq (tgt := 90) hx hb dX6_sight_23 rfl (fun b23 => ?_) (fun b23 => ?_)
            · skip
              have hend2 : rayF mk (fun i => x + i * w) (nI 1) (h - 1 - x / w) (1) (acc1) = acc2 := (by rw [hr2]; exact rayF_end (fun q => by rw [hcv2, if_pos q] at b23; exact nI_n4 (by have := xs_down (w := w) (h := h) (x := x) (i := i2) (by omega) hxx q; omega) b23))
              refine lv_iinc (k := 3) (v := nI 3) (lv' := [(3, .int (nI 3)), (0, .ref ko), (1, .int (nI x)), (2, .int acc2), (4, .int cv2)]) hx hb dX6_sight_90 hl rfl (xn_inc 2 1) (by decide) rfl (fun ls hl => ?_)
              refine lv_goto (tgt := 6) hx hb dX6_sight_93 rfl ?_
              refine lv_iload_n hx hb dX6_sight_6 rfl (lv_at hl 0 rfl) ?_
              refine lv_iconst (v := nI 4) hx hb dX6_sight_7 (by decide) ?_
              refine xn_icmp_ge (tgt := 96) hx hb (by omega) (by omega) dX6_sight_8 rfl (fun b8 => absurd b8 (by omega)) (fun _ => ?_)
              refine lv_aload_n hx hb dX6_sight_11 rfl (lv_at hl 1 rfl) ?_
              refine lv_iload_n hx hb dX6_sight_12 rfl (lv_at hl 2 rfl) ?_
              refine lv_iload_n hx hb dX6_sight_13 rfl (lv_at hl 0 rfl) ?_
              refine xr_i (As := [.int (nI x), .int (nI 3)]) (rest := []) ⟨hx, hb, hml, hown, hts⟩ (c_X6_beside_3 l G ko ad w h la tp ft tr mv x (by first | assumption | omega) (by first | assumption | omega) (by first | assumption | omega) (by first | assumption | omega)) (cwV 2 hts gX6_sight_X6_beside rfl rfl rfl (by decide +kernel) ⟨Nat.le_of_ble_eq_true rfl, Nat.le_of_ble_eq_true rfl⟩) hK hP hS [1] rfl rfl rfl rfl hl.1 rfl (Nat.le_of_ble_eq_true rfl) dX6_sight_14 ⟨Nat.zero_le _, Nat.zero_le _⟩ (fun r14 H locs hp14 hP hS => ?_)
              rw [show r14 = _ from hp14]
              refine lv_istore (lv' := [(4, .int (if x % w = 0 then (-4) else nI (x - 1))), (3, .int (nI 3)), (0, .ref ko), (1, .int (nI x)), (2, .int acc2)]) hx hb dX6_sight_17 hl (by decide) rfl (fun ls hl => ?_)
              have hL19 : ∀ k : Nat, ∀ (i3 : Nat) (acc3 : Int32) (cv3 : Int32) (ls : Array Slot) (H : Heap) (locs : List Loc), x - x / w * w + 1 - i3 = k → (1 ≤ i3) → (i3 ≤ x - x / w * w + 1) → (cv3 = (if i3 ≤ x - x / w * w then nI (x - i3) else (-4))) → (rayF mk (fun i => x - i) (nI 0) (x - x / w * w) (1) (acc2) = rayF mk (fun i => x - i) (nI 0) (x - x / w * w + 1 - i3) (i3) (acc3)) → lv_has ls 6 [(0, .ref ko), (1, .int (nI x)), (2, .int acc3), (3, .int (nI 3)), (4, .int cv3)] → xP G [iA G (ad 4) 16 mk, oC ko 6 [.ref (ad 0), .ref (ad 1), .int (nI w), .int (nI h), .int (nI la), .ref (ad 2), .int (mv 0), .int (mv 1), .int (mv 2), .int (mv 3), .int (mv 4), .int (mv 5), .int (mv 6), .ref (ad 3), .int (nI tp), .int (mv 7), .int (mv 8), .int (mv 9), .int (mv 10), .int ft, .int (mv 11), .ref (ad 4), .ref (ad 5), .ref (ad 6), .ref (ad 7), .ref (ad 8), .ref (ad 9), .ref (ad 10), .int tr]] H → va_S (fun _ => False) ss.heap H locs → W pp l ee ({ frames := 2, cells := 0, slots := 0, locals := 42 } : Room) ss mm ([.ref ko, .int (nI x)] : List Value).toArray below mt cd H locs 0 0 (MQ below (Q_X6_sight G ko ad w h la tp ft tr mv mk x) ([.ref ko, .int (nI x)] : List Value).toArray ss 0 0 (fun _ => False)) (F0 mm 19 ls []) := by
                intro k
                induction k using Nat.strongRecOn with
                | _ k ih19 =>
                intro i3 acc3 cv3 ls H locs hm19 h13 hi3 hcv3 hr3 hl hP hS
                refine lv_iload hx hb dX6_sight_19 (lv_at hl 4 rfl) ?_
                refine lv_bipush (v := (-4)) hx hb dX6_sight_21 (by decide) ?_
                refine lv_icmp_eq (tgt := 90) hx hb dX6_sight_23 rfl (fun b23 => ?_) (fun b23 => ?_)
                · skip
                  have hend3 : rayF mk (fun i => x - i) (nI 0) (x - x / w * w) (1) (acc2) = acc3 := (by rw [hr3]; exact rayF_end (fun q => by rw [hcv3, if_pos q] at b23; exact nI_n4 (by omega) b23))
                  refine lv_iinc (k := 3) (v := nI 4) (lv' := [(3, .int (nI 4)), (0, .ref ko), (1, .int (nI x)), (2, .int acc3), (4, .int cv3)]) hx hb dX6_sight_90 hl rfl (xn_inc 3 1) (by decide) rfl (fun ls hl => ?_)
                  refine lv_goto (tgt := 6) hx hb dX6_sight_93 rfl ?_
                  refine lv_iload_n hx hb dX6_sight_6 rfl (lv_at hl 0 rfl) ?_
                  refine lv_iconst (v := nI 4) hx hb dX6_sight_7 (by decide) ?_
                  refine xn_icmp_ge (tgt := 96) hx hb (by omega) (by omega) dX6_sight_8 rfl (fun _ => ?_) (fun b8 => absurd b8 (by omega))
                  refine lv_iload_n hx hb dX6_sight_96 rfl (lv_at hl 3 rfl) ?_
                  refine W.iret (v := acc3) hx hb hr (fun t ht hW => ⟨⟨acc3, (), rfl, ?_, trivial⟩, hS.F ht⟩) hS.2.2 dX6_sight_97
                  rw [rayF_acc] at hend0 hend1 hend2 hend3; show acc3 = sgF w h mk x; rw [← hend3, ← hend2, ← hend1, ← hend0]; exact sg_order _ _ _ _ _
                · skip
                  have hic3 : i3 ≤ x - x / w * w := (by by_cases q : i3 ≤ x - x / w * w; exact q; rw [hcv3, if_neg q] at b23; exact absurd rfl b23)
                  have ecv3 : cv3 = nI (x - i3) := (by rw [hcv3, if_pos hic3])
                  have hcb3 : x - i3 < 16 := (by omega)
                  rw [ecv3] at hl
                  refine lv_iload_n hx hb dX6_sight_26 rfl (lv_at hl 2 rfl) ?_
                  refine lv_iconst (v := nI 1) hx hb dX6_sight_27 (by decide) ?_
                  refine lv_iload hx hb dX6_sight_28 (lv_at hl 4 rfl) ?_
                  refine lv_ishl hx hb dX6_sight_30 ?_
                  refine lv_ior hx hb dX6_sight_31 ?_
                  refine lv_istore_n (lv' := [(2, .int (acc3 ||| ((nI 1) <<< ((nI (x - i3)) &&& 31)))), (0, .ref ko), (1, .int (nI x)), (3, .int (nI 3)), (4, .int (nI (x - i3)))]) hx hb dX6_sight_32 rfl hl (by decide) rfl (fun ls hl => ?_)
                  refine lv_aload_n hx hb dX6_sight_33 rfl (lv_at hl 1 rfl) ?_
                  refine va_get (D := G.1) (ci := 6) (v := .ref (ad 4)) (C := RX6) (T := TX6) (N := 29) hx hb hts hin6 hown hK.1 hP 1 rfl rfl 21 (by decide) (hts (.fieldLink RX6 23 "BackLensesModel" "marks" "[I") (List.mem_of_getElem? (i := 1) rfl)) (fun _ h9 => h9) rfl dX6_sight_34 ?_
                  refine lv_iload hx hb dX6_sight_37 (lv_at hl 4 rfl) ?_
                  refine xn_iald hx hb hK hP 0 rfl (by omega) (by omega) dX6_sight_39 ?_
                  refine lv_iconst (v := nI 4) hx hb dX6_sight_40 (by decide) ?_
                  refine lv_icmp_eq (tgt := 61) hx hb dX6_sight_41 rfl (fun b41 => ?_) (fun b41 => ?_)
                  · skip
                    refine lv_iconst (v := nI 1) hx hb dX6_sight_61 (by decide) ?_
                    refine lv_goto (tgt := 66) hx hb dX6_sight_62 rfl ?_
                    refine lv_istore (lv' := [(5, .int (nI 1)), (2, .int (acc3 ||| ((nI 1) <<< ((nI (x - i3)) &&& 31)))), (0, .ref ko), (1, .int (nI x)), (3, .int (nI 3)), (4, .int (nI (x - i3)))]) hx hb dX6_sight_66 hl (by decide) rfl (fun ls hl => ?_)
                    refine lv_iload hx hb dX6_sight_68 (lv_at hl 0 rfl) ?_
                    refine xn_if_eq (tgt := 78) hx hb (by omega) dX6_sight_70 rfl (fun b70 => absurd b70 (by omega)) (fun _ => ?_)
                    refine lv_bipush (v := (-4)) hx hb dX6_sight_73 (by decide) ?_
                    refine lv_goto (tgt := 85) hx hb dX6_sight_75 rfl ?_
                    refine lv_istore (lv' := [(4, .int (-4)), (5, .int (nI 1)), (2, .int (acc3 ||| ((nI 1) <<< ((nI (x - i3)) &&& 31)))), (0, .ref ko), (1, .int (nI x)), (3, .int (nI 3))]) hx hb dX6_sight_85 hl (by decide) rfl (fun ls hl => ?_)
                    refine lv_goto (tgt := 19) hx hb dX6_sight_87 rfl ?_
                    have hl := lv_sub hl (l' := [(0, .ref ko), (1, .int (nI x)), (2, .int (acc3 ||| ((nI 1) <<< ((nI (x - i3)) &&& 31)))), (3, .int (nI 3)), (4, .int (-4))]) [3, 4, 2, 5, 0] rfl
                    exact ih19 (x - x / w * w + 1 - (x - x / w * w + 1)) (by omega) (x - x / w * w + 1) (acc3 ||| ((nI 1) <<< ((nI (x - i3)) &&& 31))) (-4) ls H locs rfl (by omega) (by omega) (by first | exact (if_neg (by omega)).symm | exact by_left (w := w) (h := h) (x := x) (i := i3) (by omega) hxx hic3) (by rw [hr3]; first | exact rayF_go hic3 (fun q => q.elim b41 (fun q2 => q2.1 rfl)) | (rw [rayF_stop hic3 (Or.inl b41), Nat.sub_self, rayF]) | (rw [rayF_stop hic3 (Or.inr ⟨by decide, b52⟩), Nat.sub_self, rayF])) hl hP hS
                  · skip
                    refine lv_aload_n hx hb dX6_sight_44 rfl (lv_at hl 1 rfl) ?_
                    refine va_get (D := G.1) (ci := 6) (v := .ref (ad 4)) (C := RX6) (T := TX6) (N := 29) hx hb hts hin6 hown hK.1 hP 1 rfl rfl 21 (by decide) (hts (.fieldLink RX6 23 "BackLensesModel" "marks" "[I") (List.mem_of_getElem? (i := 1) rfl)) (fun _ h9 => h9) rfl dX6_sight_45 ?_
                    refine lv_iload hx hb dX6_sight_48 (lv_at hl 4 rfl) ?_
                    refine xn_iald hx hb hK hP 0 rfl (by omega) (by omega) dX6_sight_50 ?_
                    refine lv_iconst (v := nI 5) hx hb dX6_sight_51 (by decide) ?_
                    refine lv_icmp_ne (tgt := 65) hx hb dX6_sight_52 rfl (fun b52 => ?_) (fun b52 => ?_)
                    · skip
                      refine lv_iconst (v := nI 0) hx hb dX6_sight_65 (by decide) ?_
                      refine lv_istore (lv' := [(5, .int (nI 0)), (2, .int (acc3 ||| ((nI 1) <<< ((nI (x - i3)) &&& 31)))), (0, .ref ko), (1, .int (nI x)), (3, .int (nI 3)), (4, .int (nI (x - i3)))]) hx hb dX6_sight_66 hl (by decide) rfl (fun ls hl => ?_)
                      refine lv_iload hx hb dX6_sight_68 (lv_at hl 0 rfl) ?_
                      refine xn_if_eq (tgt := 78) hx hb (by omega) dX6_sight_70 rfl (fun _ => ?_) (fun b70 => absurd b70 (by omega))
                      refine lv_aload_n hx hb dX6_sight_78 rfl (lv_at hl 2 rfl) ?_
                      refine lv_iload hx hb dX6_sight_79 (lv_at hl 5 rfl) ?_
                      refine lv_iload_n hx hb dX6_sight_81 rfl (lv_at hl 4 rfl) ?_
                      refine xr_i (As := [.int (nI (x - i3)), .int (nI 3)]) (rest := []) ⟨hx, hb, hml, hown, hts⟩ (c_X6_beside_3 l G ko ad w h la tp ft tr mv (x - i3) (by first | assumption | omega) (by first | assumption | omega) (by first | assumption | omega) (by first | assumption | omega)) (cwV 2 hts gX6_sight_X6_beside rfl rfl rfl (by decide +kernel) ⟨Nat.le_of_ble_eq_true rfl, Nat.le_of_ble_eq_true rfl⟩) hK hP hS [1] rfl rfl rfl rfl hl.1 rfl (Nat.le_of_ble_eq_true rfl) dX6_sight_82 ⟨Nat.zero_le _, Nat.zero_le _⟩ (fun r82 H locs hp82 hP hS => ?_)
                      rw [show r82 = _ from hp82]
                      refine lv_istore (lv' := [(4, .int (if (x - i3) % w = 0 then (-4) else nI ((x - i3) - 1))), (5, .int (nI 0)), (2, .int (acc3 ||| ((nI 1) <<< ((nI (x - i3)) &&& 31)))), (0, .ref ko), (1, .int (nI x)), (3, .int (nI 3))]) hx hb dX6_sight_85 hl (by decide) rfl (fun ls hl => ?_)
                      refine lv_goto (tgt := 19) hx hb dX6_sight_87 rfl ?_
                      have hl := lv_sub hl (l' := [(0, .ref ko), (1, .int (nI x)), (2, .int (acc3 ||| ((nI 1) <<< ((nI (x - i3)) &&& 31)))), (3, .int (nI 3)), (4, .int (if (x - i3) % w = 0 then (-4) else nI ((x - i3) - 1)))]) [3, 4, 2, 5, 0] rfl
                      exact ih19 (x - x / w * w + 1 - (i3 + 1)) (by omega) (i3 + 1) (acc3 ||| ((nI 1) <<< ((nI (x - i3)) &&& 31))) (if (x - i3) % w = 0 then (-4) else nI ((x - i3) - 1)) ls H locs rfl (by omega) (by omega) (by first | exact (if_neg (by omega)).symm | exact by_left (w := w) (h := h) (x := x) (i := i3) (by omega) hxx hic3) (by rw [hr3]; first | exact rayF_go hic3 (fun q => q.elim b41 (fun q2 => q2.1 rfl)) | (rw [rayF_stop hic3 (Or.inl b41), Nat.sub_self, rayF]) | (rw [rayF_stop hic3 (Or.inr ⟨by decide, b52⟩), Nat.sub_self, rayF])) hl hP hS
                    · skip
                      refine lv_iload_n hx hb dX6_sight_55 rfl (lv_at hl 3 rfl) ?_
                      refine lv_iconst (v := nI 2) hx hb dX6_sight_56 (by decide) ?_
                      refine xn_irem hx hb (by omega) (by omega) (by omega) dX6_sight_57 ?_
                      refine xn_if_ne (tgt := 65) hx hb (by omega) dX6_sight_58 rfl (fun _ => ?_) (fun b58 => absurd b58 (by omega))
                      refine lv_iconst (v := nI 0) hx hb dX6_sight_65 (by decide) ?_
                      refine lv_istore (lv' := [(5, .int (nI 0)), (2, .int (acc3 ||| ((nI 1) <<< ((nI (x - i3)) &&& 31)))), (0, .ref ko), (1, .int (nI x)), (3, .int (nI 3)), (4, .int (nI (x - i3)))]) hx hb dX6_sight_66 hl (by decide) rfl (fun ls hl => ?_)
                      refine lv_iload hx hb dX6_sight_68 (lv_at hl 0 rfl) ?_
                      refine xn_if_eq (tgt := 78) hx hb (by omega) dX6_sight_70 rfl (fun _ => ?_) (fun b70 => absurd b70 (by omega))
                      refine lv_aload_n hx hb dX6_sight_78 rfl (lv_at hl 2 rfl) ?_
                      refine lv_iload hx hb dX6_sight_79 (lv_at hl 5 rfl) ?_
                      refine lv_iload_n hx hb dX6_sight_81 rfl (lv_at hl 4 rfl) ?_
                      refine xr_i (As := [.int (nI (x - i3)), .int (nI 3)]) (rest := []) ⟨hx, hb, hml, hown, hts⟩ (c_X6_beside_3 l G ko ad w h la tp ft tr mv (x - i3) (by first | assumption | omega) (by first | assumption | omega) (by first | assumption | omega) (by first | assumption | omega)) (cwV 2 hts gX6_sight_X6_beside rfl rfl rfl (by decide +kernel) ⟨Nat.le_of_ble_eq_true rfl, Nat.le_of_ble_eq_true rfl⟩) hK hP hS [1] rfl rfl rfl rfl hl.1 rfl (Nat.le_of_ble_eq_true rfl) dX6_sight_82 ⟨Nat.zero_le _, Nat.zero_le _⟩ (fun r82 H locs hp82 hP hS => ?_)
                      rw [show r82 = _ from hp82]
                      refine lv_istore (lv' := [(4, .int (if (x - i3) % w = 0 then (-4) else nI ((x - i3) - 1))), (5, .int (nI 0)), (2, .int (acc3 ||| ((nI 1) <<< ((nI (x - i3)) &&& 31)))), (0, .ref ko), (1, .int (nI x)), (3, .int (nI 3))]) hx hb dX6_sight_85 hl (by decide) rfl (fun ls hl => ?_)
                      refine lv_goto (tgt := 19) hx hb dX6_sight_87 rfl ?_
                      have hl := lv_sub hl (l' := [(0, .ref ko), (1, .int (nI x)), (2, .int (acc3 ||| ((nI 1) <<< ((nI (x - i3)) &&& 31)))), (3, .int (nI 3)), (4, .int (if (x - i3) % w = 0 then (-4) else nI ((x - i3) - 1)))]) [3, 4, 2, 5, 0] rfl
                      exact ih19 (x - x / w * w + 1 - (i3 + 1)) (by omega) (i3 + 1) (acc3 ||| ((nI 1) <<< ((nI (x - i3)) &&& 31))) (if (x - i3) % w = 0 then (-4) else nI ((x - i3) - 1)) ls H locs rfl (by omega) (by omega) (by first | exact (if_neg (by omega)).symm | exact by_left (w := w) (h := h) (x := x) (i := i3) (by omega) hxx hic3) (by rw [hr3]; first | exact rayF_go hic3 (fun q => q.elim b41 (fun q2 => q2.1 rfl)) | (rw [rayF_stop hic3 (Or.inl b41), Nat.sub_self, rayF]) | (rw [rayF_stop hic3 (Or.inr ⟨by decide, b52⟩), Nat.sub_self, rayF])) hl hP hS
              have hl := lv_sub hl (l' := [(0, .ref ko), (1, .int (nI x)), (2, .int acc2), (3, .int (nI 3)), (4, .int (if x % w = 0 then (-4) else nI (x - 1)))]) [2, 3, 4, 1, 0] rfl
              exact hL19 (x - x / w * w + 1 - 1) 1 acc2 (if x % w = 0 then (-4) else nI (x - 1)) ls H locs rfl (by omega) (by omega) (by have q := by_left (w := w) (h := h) (x := x) (i := 0) (by omega) hxx (Nat.zero_le _); simp only [Nat.zero_mul, Nat.sub_zero, Nat.add_zero, Nat.zero_add] at q; exact q) (by rfl) hl hP hS
            · skip
              have hic2 : i2 ≤ h - 1 - x / w := (by by_cases q : i2 ≤ h - 1 - x / w; exact q; rw [hcv2, if_neg q] at b23; exact absurd rfl b23)
              have ecv2 : cv2 = nI (x + i2 * w) := (by rw [hcv2, if_pos hic2])
              have hcb2 : x + i2 * w < 16 := (by have := xs_down (w := w) (h := h) (x := x) (i := i2) (by omega) hxx hic2; omega)
              rw [ecv2] at hl
              refine lv_iload_n hx hb dX6_sight_26 rfl (lv_at hl 2 rfl) ?_
              refine lv_iconst (v := nI 1) hx hb dX6_sight_27 (by decide) ?_
              refine lv_iload hx hb dX6_sight_28 (lv_at hl 4 rfl) ?_
              refine lv_ishl hx hb dX6_sight_30 ?_
              refine lv_ior hx hb dX6_sight_31 ?_
              refine lv_istore_n (lv' := [(2, .int (acc2 ||| ((nI 1) <<< ((nI (x + i2 * w)) &&& 31)))), (0, .ref ko), (1, .int (nI x)), (3, .int (nI 2)), (4, .int (nI (x + i2 * w)))]) hx hb dX6_sight_32 rfl hl (by decide) rfl (fun ls hl => ?_)
              refine lv_aload_n hx hb dX6_sight_33 rfl (lv_at hl 1 rfl) ?_
              refine va_get (D := G.1) (ci := 6) (v := .ref (ad 4)) (C := RX6) (T := TX6) (N := 29) hx hb hts hin6 hown hK.1 hP 1 rfl rfl 21 (by decide) (hts (.fieldLink RX6 23 "BackLensesModel" "marks" "[I") (List.mem_of_getElem? (i := 1) rfl)) (fun _ h9 => h9) rfl dX6_sight_34 ?_
              refine lv_iload hx hb dX6_sight_37 (lv_at hl 4 rfl) ?_
              refine xn_iald hx hb hK hP 0 rfl (by omega) (by omega) dX6_sight_39 ?_
              refine lv_iconst (v := nI 4) hx hb dX6_sight_40 (by decide) ?_
              refine lv_icmp_eq (tgt := 61) hx hb dX6_sight_41 rfl (fun b41 => ?_) (fun b41 => ?_)
              · skip
                refine lv_iconst (v := nI 1) hx hb dX6_sight_61 (by decide) ?_
                refine lv_goto (tgt := 66) hx hb dX6_sight_62 rfl ?_
                refine lv_istore (lv' := [(5, .int (nI 1)), (2, .int (acc2 ||| ((nI 1) <<< ((nI (x + i2 * w)) &&& 31)))), (0, .ref ko), (1, .int (nI x)), (3, .int (nI 2)), (4, .int (nI (x + i2 * w)))]) hx hb dX6_sight_66 hl (by decide) rfl (fun ls hl => ?_)
                refine lv_iload hx hb dX6_sight_68 (lv_at hl 0 rfl) ?_
                refine xn_if_eq (tgt := 78) hx hb (by omega) dX6_sight_70 rfl (fun b70 => absurd b70 (by omega)) (fun _ => ?_)
                refine lv_bipush (v := (-4)) hx hb dX6_sight_73 (by decide) ?_
                refine lv_goto (tgt := 85) hx hb dX6_sight_75 rfl ?_
                refine lv_istore (lv' := [(4, .int (-4)), (5, .int (nI 1)), (2, .int (acc2 ||| ((nI 1) <<< ((nI (x + i2 * w)) &&& 31)))), (0, .ref ko), (1, .int (nI x)), (3, .int (nI 2))]) hx hb dX6_sight_85 hl (by decide) rfl (fun ls hl => ?_)
                refine lv_goto (tgt := 19) hx hb dX6_sight_87 rfl ?_
                have hl := lv_sub hl (l' := [(0, .ref ko), (1, .int (nI x)), (2, .int (acc2 ||| ((nI 1) <<< ((nI (x + i2 * w)) &&& 31)))), (3, .int (nI 2)), (4, .int (-4))]) [3, 4, 2, 5, 0] rfl
                exact ih19 (h - 1 - x / w + 1 - (h - 1 - x / w + 1)) (by omega) (h - 1 - x / w + 1) (acc2 ||| ((nI 1) <<< ((nI (x + i2 * w)) &&& 31))) (-4) ls H locs rfl (by omega) (by omega) (by first | exact (if_neg (by omega)).symm | exact by_down (w := w) (h := h) (x := x) (i := i2) (by omega) hxx hic2) (by rw [hr2]; first | exact rayF_go hic2 (fun q => q.elim b41 (fun q2 => b52 q2.2)) | (rw [rayF_stop hic2 (Or.inl b41), Nat.sub_self, rayF]) | (rw [rayF_stop hic2 (Or.inr ⟨by decide, b52⟩), Nat.sub_self, rayF])) hl hP hS
              · skip
                refine lv_aload_n hx hb dX6_sight_44 rfl (lv_at hl 1 rfl) ?_
                refine va_get (D := G.1) (ci := 6) (v := .ref (ad 4)) (C := RX6) (T := TX6) (N := 29) hx hb hts hin6 hown hK.1 hP 1 rfl rfl 21 (by decide) (hts (.fieldLink RX6 23 "BackLensesModel" "marks" "[I") (List.mem_of_getElem? (i := 1) rfl)) (fun _ h9 => h9) rfl dX6_sight_45 ?_
                refine lv_iload hx hb dX6_sight_48 (lv_at hl 4 rfl) ?_
                refine xn_iald hx hb hK hP 0 rfl (by omega) (by omega) dX6_sight_50 ?_
                refine lv_iconst (v := nI 5) hx hb dX6_sight_51 (by decide) ?_
                refine lv_icmp_ne (tgt := 65) hx hb dX6_sight_52 rfl (fun b52 => ?_) (fun b52 => ?_)
                · skip
                  refine lv_iconst (v := nI 0) hx hb dX6_sight_65 (by decide) ?_
                  refine lv_istore (lv' := [(5, .int (nI 0)), (2, .int (acc2 ||| ((nI 1) <<< ((nI (x + i2 * w)) &&& 31)))), (0, .ref ko), (1, .int (nI x)), (3, .int (nI 2)), (4, .int (nI (x + i2 * w)))]) hx hb dX6_sight_66 hl (by decide) rfl (fun ls hl => ?_)
                  refine lv_iload hx hb dX6_sight_68 (lv_at hl 0 rfl) ?_
                  refine xn_if_eq (tgt := 78) hx hb (by omega) dX6_sight_70 rfl (fun _ => ?_) (fun b70 => absurd b70 (by omega))
                  refine lv_aload_n hx hb dX6_sight_78 rfl (lv_at hl 2 rfl) ?_
                  refine lv_iload hx hb dX6_sight_79 (lv_at hl 5 rfl) ?_
                  refine lv_iload_n hx hb dX6_sight_81 rfl (lv_at hl 4 rfl) ?_
                  refine xr_i (As := [.int (nI (x + i2 * w)), .int (nI 2)]) (rest := []) ⟨hx, hb, hml, hown, hts⟩ (c_X6_beside_2 l G ko ad w h la tp ft tr mv (x + i2 * w) (by first | assumption | omega) (by first | assumption | omega) (by first | assumption | omega) (by first | assumption | omega)) (cwV 2 hts gX6_sight_X6_beside rfl rfl rfl (by decide +kernel) ⟨Nat.le_of_ble_eq_true rfl, Nat.le_of_ble_eq_true rfl⟩) hK hP hS [1] rfl rfl rfl rfl hl.1 rfl (Nat.le_of_ble_eq_true rfl) dX6_sight_82 ⟨Nat.zero_le _, Nat.zero_le _⟩ (fun r82 H locs hp82 hP hS => ?_)
                  rw [show r82 = _ from hp82]
                  refine lv_istore (lv' := [(4, .int (if w * h ≤ (x + i2 * w) + w then (-4) else nI ((x + i2 * w) + w))), (5, .int (nI 0)), (2, .int (acc2 ||| ((nI 1) <<< ((nI (x + i2 * w)) &&& 31)))), (0, .ref ko), (1, .int (nI x)), (3, .int (nI 2))]) hx hb dX6_sight_85 hl (by decide) rfl (fun ls hl => ?_)
                  refine lv_goto (tgt := 19) hx hb dX6_sight_87 rfl ?_
                  have hl := lv_sub hl (l' := [(0, .ref ko), (1, .int (nI x)), (2, .int (acc2 ||| ((nI 1) <<< ((nI (x + i2 * w)) &&& 31)))), (3, .int (nI 2)), (4, .int (if w * h ≤ (x + i2 * w) + w then (-4) else nI ((x + i2 * w) + w)))]) [3, 4, 2, 5, 0] rfl
                  exact ih19 (h - 1 - x / w + 1 - (i2 + 1)) (by omega) (i2 + 1) (acc2 ||| ((nI 1) <<< ((nI (x + i2 * w)) &&& 31))) (if w * h ≤ (x + i2 * w) + w then (-4) else nI ((x + i2 * w) + w)) ls H locs rfl (by omega) (by omega) (by first | exact (if_neg (by omega)).symm | exact by_down (w := w) (h := h) (x := x) (i := i2) (by omega) hxx hic2) (by rw [hr2]; first | exact rayF_go hic2 (fun q => q.elim b41 (fun q2 => b52 q2.2)) | (rw [rayF_stop hic2 (Or.inl b41), Nat.sub_self, rayF]) | (rw [rayF_stop hic2 (Or.inr ⟨by decide, b52⟩), Nat.sub_self, rayF])) hl hP hS
                · skip
                  refine lv_iload_n hx hb dX6_sight_55 rfl (lv_at hl 3 rfl) ?_
                  refine lv_iconst (v := nI 2) hx hb dX6_sight_56 (by decide) ?_
                  refine xn_irem hx hb (by omega) (by omega) (by omega) dX6_sight_57 ?_
                  refine xn_if_ne (tgt := 65) hx hb (by omega) dX6_sight_58 rfl (fun b58 => absurd b58 (by omega)) (fun _ => ?_)
                  refine lv_iconst (v := nI 1) hx hb dX6_sight_61 (by decide) ?_
                  refine lv_goto (tgt := 66) hx hb dX6_sight_62 rfl ?_
                  refine lv_istore (lv' := [(5, .int (nI 1)), (2, .int (acc2 ||| ((nI 1) <<< ((nI (x + i2 * w)) &&& 31)))), (0, .ref ko), (1, .int (nI x)), (3, .int (nI 2)), (4, .int (nI (x + i2 * w)))]) hx hb dX6_sight_66 hl (by decide) rfl (fun ls hl => ?_)
                  refine lv_iload hx hb dX6_sight_68 (lv_at hl 0 rfl) ?_
                  refine xn_if_eq (tgt := 78) hx hb (by omega) dX6_sight_70 rfl (fun b70 => absurd b70 (by omega)) (fun _ => ?_)
                  refine lv_bipush (v := (-4)) hx hb dX6_sight_73 (by decide) ?_
                  refine lv_goto (tgt := 85) hx hb dX6_sight_75 rfl ?_
                  refine lv_istore (lv' := [(4, .int (-4)), (5, .int (nI 1)), (2, .int (acc2 ||| ((nI 1) <<< ((nI (x + i2 * w)) &&& 31)))), (0, .ref ko), (1, .int (nI x)), (3, .int (nI 2))]) hx hb dX6_sight_85 hl (by decide) rfl (fun ls hl => ?_)
                  refine lv_goto (tgt := 19) hx hb dX6_sight_87 rfl ?_
                  have hl := lv_sub hl (l' := [(0, .ref ko), (1, .int (nI x)), (2, .int (acc2 ||| ((nI 1) <<< ((nI (x + i2 * w)) &&& 31)))), (3, .int (nI 2)), (4, .int (-4))]) [3, 4, 2, 5, 0] rfl
                  exact ih19 (h - 1 - x / w + 1 - (h - 1 - x / w + 1)) (by omega) (h - 1 - x / w + 1) (acc2 ||| ((nI 1) <<< ((nI (x + i2 * w)) &&& 31))) (-4) ls H locs rfl (by omega) (by omega) (by first | exact (if_neg (by omega)).symm | exact by_down (w := w) (h := h) (x := x) (i := i2) (by omega) hxx hic2) (by rw [hr2]; first | exact rayF_go hic2 (fun q => q.elim b41 (fun q2 => b52 q2.2)) | (rw [rayF_stop hic2 (Or.inl b41), Nat.sub_self, rayF]) | (rw [rayF_stop hic2 (Or.inr ⟨by decide, b52⟩), Nat.sub_self, rayF])) hl hP hS
          have hl := lv_sub hl (l' := [(0, .ref ko), (1, .int (nI x)), (2, .int acc1), (3, .int (nI 2)), (4, .int (if w * h ≤ x + w then (-4) else nI (x + w)))]) [2, 3, 4, 1, 0] rfl
          exact hL19 (h - 1 - x / w + 1 - 1) 1 acc1 (if w * h ≤ x + w then (-4) else nI (x + w)) ls H locs rfl (by omega) (by omega) (by have q := by_down (w := w) (h := h) (x := x) (i := 0) (by omega) hxx (Nat.zero_le _); simp only [Nat.zero_mul, Nat.sub_zero, Nat.add_zero, Nat.zero_add] at q; exact q) (by rfl) hl hP hS
        · skip
          have hic1 : i1 ≤ w - 1 - (x - x / w * w) := (by by_cases q : i1 ≤ w - 1 - (x - x / w * w); exact q; rw [hcv1, if_neg q] at b23; exact absurd rfl b23)
          have ecv1 : cv1 = nI (x + i1) := (by rw [hcv1, if_pos hic1])
          have hcb1 : x + i1 < 16 := (by have := xs_right (w := w) (h := h) (x := x) (i := i1) (by omega) hxx hic1; omega)
          rw [ecv1] at hl
          refine lv_iload_n hx hb dX6_sight_26 rfl (lv_at hl 2 rfl) ?_
          refine lv_iconst (v := nI 1) hx hb dX6_sight_27 (by decide) ?_
          refine lv_iload hx hb dX6_sight_28 (lv_at hl 4 rfl) ?_
          refine lv_ishl hx hb dX6_sight_30 ?_
          refine lv_ior hx hb dX6_sight_31 ?_
          refine lv_istore_n (lv' := [(2, .int (acc1 ||| ((nI 1) <<< ((nI (x + i1)) &&& 31)))), (0, .ref ko), (1, .int (nI x)), (3, .int (nI 1)), (4, .int (nI (x + i1)))]) hx hb dX6_sight_32 rfl hl (by decide) rfl (fun ls hl => ?_)
          refine lv_aload_n hx hb dX6_sight_33 rfl (lv_at hl 1 rfl) ?_
          refine va_get (D := G.1) (ci := 6) (v := .ref (ad 4)) (C := RX6) (T := TX6) (N := 29) hx hb hts hin6 hown hK.1 hP 1 rfl rfl 21 (by decide) (hts (.fieldLink RX6 23 "BackLensesModel" "marks" "[I") (List.mem_of_getElem? (i := 1) rfl)) (fun _ h9 => h9) rfl dX6_sight_34 ?_
          refine lv_iload hx hb dX6_sight_37 (lv_at hl 4 rfl) ?_
          refine xn_iald hx hb hK hP 0 rfl (by omega) (by omega) dX6_sight_39 ?_
          refine lv_iconst (v := nI 4) hx hb dX6_sight_40 (by decide) ?_
          refine lv_icmp_eq (tgt := 61) hx hb dX6_sight_41 rfl (fun b41 => ?_) (fun b41 => ?_)
          · skip
            refine lv_iconst (v := nI 1) hx hb dX6_sight_61 (by decide) ?_
            refine lv_goto (tgt := 66) hx hb dX6_sight_62 rfl ?_
            refine lv_istore (lv' := [(5, .int (nI 1)), (2, .int (acc1 ||| ((nI 1) <<< ((nI (x + i1)) &&& 31)))), (0, .ref ko), (1, .int (nI x)), (3, .int (nI 1)), (4, .int (nI (x + i1)))]) hx hb dX6_sight_66 hl (by decide) rfl (fun ls hl => ?_)
            refine lv_iload hx hb dX6_sight_68 (lv_at hl 0 rfl) ?_
            refine xn_if_eq (tgt := 78) hx hb (by omega) dX6_sight_70 rfl (fun b70 => absurd b70 (by omega)) (fun _ => ?_)
            refine lv_bipush (v := (-4)) hx hb dX6_sight_73 (by decide) ?_
            refine lv_goto (tgt := 85) hx hb dX6_sight_75 rfl ?_
            refine lv_istore (lv' := [(4, .int (-4)), (5, .int (nI 1)), (2, .int (acc1 ||| ((nI 1) <<< ((nI (x + i1)) &&& 31)))), (0, .ref ko), (1, .int (nI x)), (3, .int (nI 1))]) hx hb dX6_sight_85 hl (by decide) rfl (fun ls hl => ?_)
            refine lv_goto (tgt := 19) hx hb dX6_sight_87 rfl ?_
            have hl := lv_sub hl (l' := [(0, .ref ko), (1, .int (nI x)), (2, .int (acc1 ||| ((nI 1) <<< ((nI (x + i1)) &&& 31)))), (3, .int (nI 1)), (4, .int (-4))]) [3, 4, 2, 5, 0] rfl
            exact ih19 (w - 1 - (x - x / w * w) + 1 - (w - 1 - (x - x / w * w) + 1)) (by omega) (w - 1 - (x - x / w * w) + 1) (acc1 ||| ((nI 1) <<< ((nI (x + i1)) &&& 31))) (-4) ls H locs rfl (by omega) (by omega) (by first | exact (if_neg (by omega)).symm | exact by_right (w := w) (h := h) (x := x) (i := i1) (by omega) hxx hic1) (by rw [hr1]; first | exact rayF_go hic1 (fun q => q.elim b41 (fun q2 => q2.1 rfl)) | (rw [rayF_stop hic1 (Or.inl b41), Nat.sub_self, rayF]) | (rw [rayF_stop hic1 (Or.inr ⟨by decide, b52⟩), Nat.sub_self, rayF])) hl hP hS
          · skip
            refine lv_aload_n hx hb dX6_sight_44 rfl (lv_at hl 1 rfl) ?_
            refine va_get (D := G.1) (ci := 6) (v := .ref (ad 4)) (C := RX6) (T := TX6) (N := 29) hx hb hts hin6 hown hK.1 hP 1 rfl rfl 21 (by decide) (hts (.fieldLink RX6 23 "BackLensesModel" "marks" "[I") (List.mem_of_getElem? (i := 1) rfl)) (fun _ h9 => h9) rfl dX6_sight_45 ?_
            refine lv_iload hx hb dX6_sight_48 (lv_at hl 4 rfl) ?_
            refine xn_iald hx hb hK hP 0 rfl (by omega) (by omega) dX6_sight_50 ?_
            refine lv_iconst (v := nI 5) hx hb dX6_sight_51 (by decide) ?_
            refine lv_icmp_ne (tgt := 65) hx hb dX6_sight_52 rfl (fun b52 => ?_) (fun b52 => ?_)
            · skip
              refine lv_iconst (v := nI 0) hx hb dX6_sight_65 (by decide) ?_
              refine lv_istore (lv' := [(5, .int (nI 0)), (2, .int (acc1 ||| ((nI 1) <<< ((nI (x + i1)) &&& 31)))), (0, .ref ko), (1, .int (nI x)), (3, .int (nI 1)), (4, .int (nI (x + i1)))]) hx hb dX6_sight_66 hl (by decide) rfl (fun ls hl => ?_)
              refine lv_iload hx hb dX6_sight_68 (lv_at hl 0 rfl) ?_
              refine xn_if_eq (tgt := 78) hx hb (by omega) dX6_sight_70 rfl (fun _ => ?_) (fun b70 => absurd b70 (by omega))
              refine lv_aload_n hx hb dX6_sight_78 rfl (lv_at hl 2 rfl) ?_
              refine lv_iload hx hb dX6_sight_79 (lv_at hl 5 rfl) ?_
              refine lv_iload_n hx hb dX6_sight_81 rfl (lv_at hl 4 rfl) ?_
              refine xr_i (As := [.int (nI (x + i1)), .int (nI 1)]) (rest := []) ⟨hx, hb, hml, hown, hts⟩ (c_X6_beside_1 l G ko ad w h la tp ft tr mv (x + i1) (by first | assumption | omega) (by first | assumption | omega) (by first | assumption | omega) (by first | assumption | omega)) (cwV 2 hts gX6_sight_X6_beside rfl rfl rfl (by decide +kernel) ⟨Nat.le_of_ble_eq_true rfl, Nat.le_of_ble_eq_true rfl⟩) hK hP hS [1] rfl rfl rfl rfl hl.1 rfl (Nat.le_of_ble_eq_true rfl) dX6_sight_82 ⟨Nat.zero_le _, Nat.zero_le _⟩ (fun r82 H locs hp82 hP hS => ?_)
              rw [show r82 = _ from hp82]
              refine lv_istore (lv' := [(4, .int (if w ≤ (x + i1) % w + 1 then (-4) else nI ((x + i1) + 1))), (5, .int (nI 0)), (2, .int (acc1 ||| ((nI 1) <<< ((nI (x + i1)) &&& 31)))), (0, .ref ko), (1, .int (nI x)), (3, .int (nI 1))]) hx hb dX6_sight_85 hl (by decide) rfl (fun ls hl => ?_)
              refine lv_goto (tgt := 19) hx hb dX6_sight_87 rfl ?_
              have hl := lv_sub hl (l' := [(0, .ref ko), (1, .int (nI x)), (2, .int (acc1 ||| ((nI 1) <<< ((nI (x + i1)) &&& 31)))), (3, .int (nI 1)), (4, .int (if w ≤ (x + i1) % w + 1 then (-4) else nI ((x + i1) + 1)))]) [3, 4, 2, 5, 0] rfl
              exact ih19 (w - 1 - (x - x / w * w) + 1 - (i1 + 1)) (by omega) (i1 + 1) (acc1 ||| ((nI 1) <<< ((nI (x + i1)) &&& 31))) (if w ≤ (x + i1) % w + 1 then (-4) else nI ((x + i1) + 1)) ls H locs rfl (by omega) (by omega) (by first | exact (if_neg (by omega)).symm | exact by_right (w := w) (h := h) (x := x) (i := i1) (by omega) hxx hic1) (by rw [hr1]; first | exact rayF_go hic1 (fun q => q.elim b41 (fun q2 => q2.1 rfl)) | (rw [rayF_stop hic1 (Or.inl b41), Nat.sub_self, rayF]) | (rw [rayF_stop hic1 (Or.inr ⟨by decide, b52⟩), Nat.sub_self, rayF])) hl hP hS
            · skip
              refine lv_iload_n hx hb dX6_sight_55 rfl (lv_at hl 3 rfl) ?_
              refine lv_iconst (v := nI 2) hx hb dX6_sight_56 (by decide) ?_
              refine xn_irem hx hb (by omega) (by omega) (by omega) dX6_sight_57 ?_
              refine xn_if_ne (tgt := 65) hx hb (by omega) dX6_sight_58 rfl (fun _ => ?_) (fun b58 => absurd b58 (by omega))
              refine lv_iconst (v := nI 0) hx hb dX6_sight_65 (by decide) ?_
              refine lv_istore (lv' := [(5, .int (nI 0)), (2, .int (acc1 ||| ((nI 1) <<< ((nI (x + i1)) &&& 31)))), (0, .ref ko), (1, .int (nI x)), (3, .int (nI 1)), (4, .int (nI (x + i1)))]) hx hb dX6_sight_66 hl (by decide) rfl (fun ls hl => ?_)
              refine lv_iload hx hb dX6_sight_68 (lv_at hl 0 rfl) ?_
              refine xn_if_eq (tgt := 78) hx hb (by omega) dX6_sight_70 rfl (fun _ => ?_) (fun b70 => absurd b70 (by omega))
              refine lv_aload_n hx hb dX6_sight_78 rfl (lv_at hl 2 rfl) ?_
              refine lv_iload hx hb dX6_sight_79 (lv_at hl 5 rfl) ?_
              refine lv_iload_n hx hb dX6_sight_81 rfl (lv_at hl 4 rfl) ?_
              refine xr_i (As := [.int (nI (x + i1)), .int (nI 1)]) (rest := []) ⟨hx, hb, hml, hown, hts⟩ (c_X6_beside_1 l G ko ad w h la tp ft tr mv (x + i1) (by first | assumption | omega) (by first | assumption | omega) (by first | assumption | omega) (by first | assumption | omega)) (cwV 2 hts gX6_sight_X6_beside rfl rfl rfl (by decide +kernel) ⟨Nat.le_of_ble_eq_true rfl, Nat.le_of_ble_eq_true rfl⟩) hK hP hS [1] rfl rfl rfl rfl hl.1 rfl (Nat.le_of_ble_eq_true rfl) dX6_sight_82 ⟨Nat.zero_le _, Nat.zero_le _⟩ (fun r82 H locs hp82 hP hS => ?_)
              rw [show r82 = _ from hp82]
              refine lv_istore (lv' := [(4, .int (if w ≤ (x + i1) % w + 1 then (-4) else nI ((x + i1) + 1))), (5, .int (nI 0)), (2, .int (acc1 ||| ((nI 1) <<< ((nI (x + i1)) &&& 31)))), (0, .ref ko), (1, .int (nI x)), (3, .int (nI 1))]) hx hb dX6_sight_85 hl (by decide) rfl (fun ls hl => ?_)
              refine lv_goto (tgt := 19) hx hb dX6_sight_87 rfl ?_
              have hl := lv_sub hl (l' := [(0, .ref ko), (1, .int (nI x)), (2, .int (acc1 ||| ((nI 1) <<< ((nI (x + i1)) &&& 31)))), (3, .int (nI 1)), (4, .int (if w ≤ (x + i1) % w + 1 then (-4) else nI ((x + i1) + 1)))]) [3, 4, 2, 5, 0] rfl
              exact ih19 (w - 1 - (x - x / w * w) + 1 - (i1 + 1)) (by omega) (i1 + 1) (acc1 ||| ((nI 1) <<< ((nI (x + i1)) &&& 31))) (if w ≤ (x + i1) % w + 1 then (-4) else nI ((x + i1) + 1)) ls H locs rfl (by omega) (by omega) (by first | exact (if_neg (by omega)).symm | exact by_right (w := w) (h := h) (x := x) (i := i1) (by omega) hxx hic1) (by rw [hr1]; first | exact rayF_go hic1 (fun q => q.elim b41 (fun q2 => q2.1 rfl)) | (rw [rayF_stop hic1 (Or.inl b41), Nat.sub_self, rayF]) | (rw [rayF_stop hic1 (Or.inr ⟨by decide, b52⟩), Nat.sub_self, rayF])) hl hP hS
      have hl := lv_sub hl (l' := [(0, .ref ko), (1, .int (nI x)), (2, .int acc0), (3, .int (nI 1)), (4, .int (if w ≤ x % w + 1 then (-4) else nI (x + 1)))]) [2, 3, 4, 1, 0] rfl
      exact hL19 (w - 1 - (x - x / w * w) + 1 - 1) 1 acc0 (if w ≤ x % w + 1 then (-4) else nI (x + 1)) ls H locs rfl (by omega) (by omega) (by have q := by_right (w := w) (h := h) (x := x) (i := 0) (by omega) hxx (Nat.zero_le _); simp only [Nat.zero_mul, Nat.sub_zero, Nat.add_zero, Nat.zero_add] at q; exact q) (by rfl) hl hP hS
    · skip
      have hic0 : i0 ≤ x / w := (by by_cases q : i0 ≤ x / w; exact q; rw [hcv0, if_neg q] at b23; exact absurd rfl b23)
      have ecv0 : cv0 = nI (x - i0 * w) := (by rw [hcv0, if_pos hic0])
      have hcb0 : x - i0 * w < 16 := (by omega)
      rw [ecv0] at hl
      refine lv_iload_n hx hb dX6_sight_26 rfl (lv_at hl 2 rfl) ?_
      refine lv_iconst (v := nI 1) hx hb dX6_sight_27 (by decide) ?_
      refine lv_iload hx hb dX6_sight_28 (lv_at hl 4 rfl) ?_
      refine lv_ishl hx hb dX6_sight_30 ?_
      refine lv_ior hx hb dX6_sight_31 ?_
      refine lv_istore_n (lv' := [(2, .int (acc0 ||| ((nI 1) <<< ((nI (x - i0 * w)) &&& 31)))), (0, .ref ko), (1, .int (nI x)), (3, .int (nI 0)), (4, .int (nI (x - i0 * w)))]) hx hb dX6_sight_32 rfl hl (by decide) rfl (fun ls hl => ?_)
      refine lv_aload_n hx hb dX6_sight_33 rfl (lv_at hl 1 rfl) ?_
      refine va_get (D := G.1) (ci := 6) (v := .ref (ad 4)) (C := RX6) (T := TX6) (N := 29) hx hb hts hin6 hown hK.1 hP 1 rfl rfl 21 (by decide) (hts (.fieldLink RX6 23 "BackLensesModel" "marks" "[I") (List.mem_of_getElem? (i := 1) rfl)) (fun _ h9 => h9) rfl dX6_sight_34 ?_
      refine lv_iload hx hb dX6_sight_37 (lv_at hl 4 rfl) ?_
      refine xn_iald hx hb hK hP 0 rfl (by omega) (by omega) dX6_sight_39 ?_
      refine lv_iconst (v := nI 4) hx hb dX6_sight_40 (by decide) ?_
      refine lv_icmp_eq (tgt := 61) hx hb dX6_sight_41 rfl (fun b41 => ?_) (fun b41 => ?_)
      · skip
        refine lv_iconst (v := nI 1) hx hb dX6_sight_61 (by decide) ?_
        refine lv_goto (tgt := 66) hx hb dX6_sight_62 rfl ?_
        refine lv_istore (lv' := [(5, .int (nI 1)), (2, .int (acc0 ||| ((nI 1) <<< ((nI (x - i0 * w)) &&& 31)))), (0, .ref ko), (1, .int (nI x)), (3, .int (nI 0)), (4, .int (nI (x - i0 * w)))]) hx hb dX6_sight_66 hl (by decide) rfl (fun ls hl => ?_)
        refine lv_iload hx hb dX6_sight_68 (lv_at hl 0 rfl) ?_
        refine xn_if_eq (tgt := 78) hx hb (by omega) dX6_sight_70 rfl (fun b70 => absurd b70 (by omega)) (fun _ => ?_)
        refine lv_bipush (v := (-4)) hx hb dX6_sight_73 (by decide) ?_
        refine lv_goto (tgt := 85) hx hb dX6_sight_75 rfl ?_
        refine lv_istore (lv' := [(4, .int (-4)), (5, .int (nI 1)), (2, .int (acc0 ||| ((nI 1) <<< ((nI (x - i0 * w)) &&& 31)))), (0, .ref ko), (1, .int (nI x)), (3, .int (nI 0))]) hx hb dX6_sight_85 hl (by decide) rfl (fun ls hl => ?_)
        refine lv_goto (tgt := 19) hx hb dX6_sight_87 rfl ?_
        have hl := lv_sub hl (l' := [(0, .ref ko), (1, .int (nI x)), (2, .int (acc0 ||| ((nI 1) <<< ((nI (x - i0 * w)) &&& 31)))), (3, .int (nI 0)), (4, .int (-4))]) [3, 4, 2, 5, 0] rfl
        exact ih19 (x / w + 1 - (x / w + 1)) (by omega) (x / w + 1) (acc0 ||| ((nI 1) <<< ((nI (x - i0 * w)) &&& 31))) (-4) ls H locs rfl (by omega) (by omega) (by first | exact (if_neg (by omega)).symm | exact by_up (w := w) (h := h) (x := x) (i := i0) (by omega) hxx hic0) (by rw [hr0]; first | exact rayF_go hic0 (fun q => q.elim b41 (fun q2 => b52 q2.2)) | (rw [rayF_stop hic0 (Or.inl b41), Nat.sub_self, rayF]) | (rw [rayF_stop hic0 (Or.inr ⟨by decide, b52⟩), Nat.sub_self, rayF])) hl hP hS
      · skip
        refine lv_aload_n hx hb dX6_sight_44 rfl (lv_at hl 1 rfl) ?_
        refine va_get (D := G.1) (ci := 6) (v := .ref (ad 4)) (C := RX6) (T := TX6) (N := 29) hx hb hts hin6 hown hK.1 hP 1 rfl rfl 21 (by decide) (hts (.fieldLink RX6 23 "BackLensesModel" "marks" "[I") (List.mem_of_getElem? (i := 1) rfl)) (fun _ h9 => h9) rfl dX6_sight_45 ?_
        refine lv_iload hx hb dX6_sight_48 (lv_at hl 4 rfl) ?_
        refine xn_iald hx hb hK hP 0 rfl (by omega) (by omega) dX6_sight_50 ?_
        refine lv_iconst (v := nI 5) hx hb dX6_sight_51 (by decide) ?_
        refine lv_icmp_ne (tgt := 65) hx hb dX6_sight_52 rfl (fun b52 => ?_) (fun b52 => ?_)
        · skip
          refine lv_iconst (v := nI 0) hx hb dX6_sight_65 (by decide) ?_
          refine lv_istore (lv' := [(5, .int (nI 0)), (2, .int (acc0 ||| ((nI 1) <<< ((nI (x - i0 * w)) &&& 31)))), (0, .ref ko), (1, .int (nI x)), (3, .int (nI 0)), (4, .int (nI (x - i0 * w)))]) hx hb dX6_sight_66 hl (by decide) rfl (fun ls hl => ?_)
          refine lv_iload hx hb dX6_sight_68 (lv_at hl 0 rfl) ?_
          refine xn_if_eq (tgt := 78) hx hb (by omega) dX6_sight_70 rfl (fun _ => ?_) (fun b70 => absurd b70 (by omega))
          refine lv_aload_n hx hb dX6_sight_78 rfl (lv_at hl 2 rfl) ?_
          refine lv_iload hx hb dX6_sight_79 (lv_at hl 5 rfl) ?_
          refine lv_iload_n hx hb dX6_sight_81 rfl (lv_at hl 4 rfl) ?_
          refine xr_i (As := [.int (nI (x - i0 * w)), .int (nI 0)]) (rest := []) ⟨hx, hb, hml, hown, hts⟩ (c_X6_beside_0 l G ko ad w h la tp ft tr mv (x - i0 * w) (by first | assumption | omega) (by first | assumption | omega) (by first | assumption | omega) (by first | assumption | omega)) (cwV 2 hts gX6_sight_X6_beside rfl rfl rfl (by decide +kernel) ⟨Nat.le_of_ble_eq_true rfl, Nat.le_of_ble_eq_true rfl⟩) hK hP hS [1] rfl rfl rfl rfl hl.1 rfl (Nat.le_of_ble_eq_true rfl) dX6_sight_82 ⟨Nat.zero_le _, Nat.zero_le _⟩ (fun r82 H locs hp82 hP hS => ?_)
          rw [show r82 = _ from hp82]
          refine lv_istore (lv' := [(4, .int (if w ≤ (x - i0 * w) then nI ((x - i0 * w) - w) else (-4))), (5, .int (nI 0)), (2, .int (acc0 ||| ((nI 1) <<< ((nI (x - i0 * w)) &&& 31)))), (0, .ref ko), (1, .int (nI x)), (3, .int (nI 0))]) hx hb dX6_sight_85 hl (by decide) rfl (fun ls hl => ?_)
          refine lv_goto (tgt := 19) hx hb dX6_sight_87 rfl ?_
          have hl := lv_sub hl (l' := [(0, .ref ko), (1, .int (nI x)), (2, .int (acc0 ||| ((nI 1) <<< ((nI (x - i0 * w)) &&& 31)))), (3, .int (nI 0)), (4, .int (if w ≤ (x - i0 * w) then nI ((x - i0 * w) - w) else (-4)))]) [3, 4, 2, 5, 0] rfl
          exact ih19 (x / w + 1 - (i0 + 1)) (by omega) (i0 + 1) (acc0 ||| ((nI 1) <<< ((nI (x - i0 * w)) &&& 31))) (if w ≤ (x - i0 * w) then nI ((x - i0 * w) - w) else (-4)) ls H locs rfl (by omega) (by omega) (by first | exact (if_neg (by omega)).symm | exact by_up (w := w) (h := h) (x := x) (i := i0) (by omega) hxx hic0) (by rw [hr0]; first | exact rayF_go hic0 (fun q => q.elim b41 (fun q2 => b52 q2.2)) | (rw [rayF_stop hic0 (Or.inl b41), Nat.sub_self, rayF]) | (rw [rayF_stop hic0 (Or.inr ⟨by decide, b52⟩), Nat.sub_self, rayF])) hl hP hS
        · skip
          refine lv_iload_n hx hb dX6_sight_55 rfl (lv_at hl 3 rfl) ?_
          refine lv_iconst (v := nI 2) hx hb dX6_sight_56 (by decide) ?_
          refine xn_irem hx hb (by omega) (by omega) (by omega) dX6_sight_57 ?_
          refine xn_if_ne (tgt := 65) hx hb (by omega) dX6_sight_58 rfl (fun b58 => absurd b58 (by omega)) (fun _ => ?_)
          refine lv_iconst (v := nI 1) hx hb dX6_sight_61 (by decide) ?_
          refine lv_goto (tgt := 66) hx hb dX6_sight_62 rfl ?_
          refine lv_istore (lv' := [(5, .int (nI 1)), (2, .int (acc0 ||| ((nI 1) <<< ((nI (x - i0 * w)) &&& 31)))), (0, .ref ko), (1, .int (nI x)), (3, .int (nI 0)), (4, .int (nI (x - i0 * w)))]) hx hb dX6_sight_66 hl (by decide) rfl (fun ls hl => ?_)
          refine lv_iload hx hb dX6_sight_68 (lv_at hl 0 rfl) ?_
          refine xn_if_eq (tgt := 78) hx hb (by omega) dX6_sight_70 rfl (fun b70 => absurd b70 (by omega)) (fun _ => ?_)
          refine lv_bipush (v := (-4)) hx hb dX6_sight_73 (by decide) ?_
          refine lv_goto (tgt := 85) hx hb dX6_sight_75 rfl ?_
          refine lv_istore (lv' := [(4, .int (-4)), (5, .int (nI 1)), (2, .int (acc0 ||| ((nI 1) <<< ((nI (x - i0 * w)) &&& 31)))), (0, .ref ko), (1, .int (nI x)), (3, .int (nI 0))]) hx hb dX6_sight_85 hl (by decide) rfl (fun ls hl => ?_)
          refine lv_goto (tgt := 19) hx hb dX6_sight_87 rfl ?_
          have hl := lv_sub hl (l' := [(0, .ref ko), (1, .int (nI x)), (2, .int (acc0 ||| ((nI 1) <<< ((nI (x - i0 * w)) &&& 31)))), (3, .int (nI 0)), (4, .int (-4))]) [3, 4, 2, 5, 0] rfl
          exact ih19 (x / w + 1 - (x / w + 1)) (by omega) (x / w + 1) (acc0 ||| ((nI 1) <<< ((nI (x - i0 * w)) &&& 31))) (-4) ls H locs rfl (by omega) (by omega) (by first | exact (if_neg (by omega)).symm | exact by_up (w := w) (h := h) (x := x) (i := i0) (by omega) hxx hic0) (by rw [hr0]; first | exact rayF_go hic0 (fun q => q.elim b41 (fun q2 => b52 q2.2)) | (rw [rayF_stop hic0 (Or.inl b41), Nat.sub_self, rayF]) | (rw [rayF_stop hic0 (Or.inr ⟨by decide, b52⟩), Nat.sub_self, rayF])) hl hP hS
  have hl := lv_sub hl (l' := [(0, .ref ko), (1, .int (nI x)), (2, .int ((nI 1) <<< ((nI x) &&& 31))), (3, .int (nI 0)), (4, .int (if w ≤ x then nI (x - w) else (-4)))]) [3, 4, 2, 1, 0] rfl
  have hP := hP.sub (ws' := [iA G (ad 4) 16 mk, oC ko 6 [.ref (ad 0), .ref (ad 1), .int (nI w), .int (nI h), .int (nI la), .ref (ad 2), .int (mv 0), .int (mv 1), .int (mv 2), .int (mv 3), .int (mv 4), .int (mv 5), .int (mv 6), .ref (ad 3), .int (nI tp), .int (mv 7), .int (mv 8), .int (mv 9), .int (mv 10), .int ft, .int (mv 11), .ref (ad 4), .ref (ad 5), .ref (ad 6), .ref (ad 7), .ref (ad 8), .ref (ad 9), .ref (ad 10), .int tr]]) [1, 0] rfl
  exact hL19 (x / w + 1 - 1) 1 ((nI 1) <<< ((nI x) &&& 31)) (if w ≤ x then nI (x - w) else (-4)) ls H locs rfl (by omega) (by omega) (by have q := by_up (w := w) (h := h) (x := x) (i := 0) (by omega) hxx (Nat.zero_le _); simp only [Nat.zero_mul, Nat.sub_zero, Nat.add_zero, Nat.zero_add] at q; exact q) (by rfl) hl hP hS
