/-! the memory while the objects are made -/
abbrev mH : Type := Nat → Nat → Nat → av_V
def cm (N L c s : Nat) (t : Nat → Nat) (h : mH) : av_M := ((c, s), (t, ((fun f _ => mlen N L f), h)))
def hu (h : mH) (f i k : Nat) (v : av_V) : mH := fun f' i' k' => if f' = f ∧ i' = i ∧ k' = k then v else h f' i' k'
def hn (h : mH) (f i : Nat) (d : Nat → av_V) : mH := fun f' i' k' => if f' = f ∧ i' = i then d k' else h f' i' k'
def du (d : Nat → av_V) (k : Nat) (v : av_V) : Nat → av_V := fun k' => if k' = k then v else d k'
def tu (t : Nat → Nat) (f : Nat) : Nat → Nat := fun f' => if f' = f then t f + 1 else t f'
theorem hu_s (h : mH) (f i k : Nat) (d : Nat → av_V) (v : av_V) : hu (hn h f i d) f i k v = hn h f i (du d k v) := by
  funext f' i' k'
  unfold hu hn du
  by_cases y : f' = f ∧ i' = i
  · rw [if_pos y]
    by_cases z : k' = k
    · rw [if_pos ⟨y.1, y.2, z⟩, if_pos y, if_pos z]
    · rw [if_neg (fun q => z q.2.2), if_pos y, if_neg z]
  · rw [if_neg (fun q => y ⟨q.1, q.2.1⟩), if_neg y, if_neg y]
theorem hu_o (h : mH) (f i k f0 i0 : Nat) (d : Nat → av_V) (v : av_V) (hf : ¬ f = f0) : hu (hn h f0 i0 d) f i k v = hn (hu h f i k v) f0 i0 d := by
  funext f' i' k'
  unfold hu hn
  by_cases y : f' = f0 ∧ i' = i0
  · rw [if_pos y, if_pos y, if_neg (fun q => hf (q.1.symm.trans y.1))]
  · rw [if_neg y, if_neg y]
theorem hn_s (h : mH) (f i k : Nat) (d : Nat → av_V) : hn h f i d f i k = d k := if_pos ⟨rfl, rfl⟩
theorem hn_o (h : mH) (f i k f0 i0 : Nat) (d : Nat → av_V) (hf : ¬ f = f0) : hn h f0 i0 d f i k = h f i k := if_neg (fun q => hf q.1)
theorem du_s (d : Nat → av_V) (k : Nat) (v : av_V) : du d k v k = v := if_pos rfl
theorem du_o (d : Nat → av_V) (k k' : Nat) (v : av_V) (h : ¬ k' = k) : du d k v k' = d k' := if_neg h
theorem tu_s (t : Nat → Nat) (f : Nat) : tu t f f = t f + 1 := if_pos rfl
theorem tu_o (t : Nat → Nat) (f f' : Nat) (h : ¬ f' = f) : tu t f f' = t f' := if_neg h
theorem hn_id {h : mH} {f i : Nat} {d : Nat → av_V} (e : ∀ k, h f i k = d k) : hn h f i d = h := by
  funext f' i' k'
  unfold hn
  by_cases y : f' = f ∧ i' = i
  · rw [if_pos y, y.1, y.2]; exact (e k').symm
  · rw [if_neg y]
theorem hn_i2 {h : mH} {f i f0 i0 : Nat} {d D : Nat → av_V} (hf : ¬ f = f0) (e : ∀ k, h f i k = d k) : hn (hn h f0 i0 D) f i d = hn h f0 i0 D := hn_id (fun k => (hn_o h f i k f0 i0 D hf).trans (e k))
theorem hn_i3 {h : mH} {f i f0 i0 f1 i1 : Nat} {d D D' : Nat → av_V} (hf : ¬ f = f0) (hf1 : ¬ f = f1) (e : ∀ k, h f i k = d k) : hn (hn (hn h f0 i0 D) f1 i1 D') f i d = hn (hn h f0 i0 D) f1 i1 D' := hn_i2 hf1 (fun k => (hn_o h f i k f0 i0 D hf).trans (e k))
section M30
variable (N L c s : Nat) (t : Nat → Nat) (h : mH)
theorem cx_cnt (f : Nat) : av_cnt (cm N L c s t h) f = t f := rfl
theorem cx_val (f i k : Nat) : av_val (cm N L c s t h) f i k = h f i k := rfl
theorem cx_len (f i : Nat) : av_len (cm N L c s t h) f i = mlen N L f := rfl
theorem cx_wr (f i k : Nat) (v : av_V) : av_wr (cm N L c s t h) f i k v = cm N L c s t (hu h f i k v) := rfl
theorem cx_mk (f n z : Nat) (d : Nat → av_V) (e : mlen N L f = n) : av_mk (cm N L c s t h) f n z d = cm N L (c + 1) (s + z) (tu t f) (hn h f (t f) d) := by
  unfold av_mk cm
  refine congrArg (fun q => ((c + 1, s + z), (tu t f, (q, hn h f (t f) d)))) ?_
  funext f' i'
  by_cases y : f' = f ∧ i' = t f
  · exact (if_pos y).trans (by rw [y.1]; exact e.symm)
  · exact if_neg y
theorem mk_1 (z : Nat) (d : Nat → av_V) : av_mk (cm N L c s t h) 1 10 z d = cm N L (c + 1) (s + z) (tu t 1) (hn h 1 (t 1) d) := cx_mk N L c s t h 1 10 z d rfl
theorem mk_2 (z : Nat) (d : Nat → av_V) : av_mk (cm N L c s t h) 2 10 z d = cm N L (c + 1) (s + z) (tu t 2) (hn h 2 (t 2) d) := cx_mk N L c s t h 2 10 z d rfl
theorem mk_3 (z : Nat) (d : Nat → av_V) : av_mk (cm N L c s t h) 3 6 z d = cm N L (c + 1) (s + z) (tu t 3) (hn h 3 (t 3) d) := cx_mk N L c s t h 3 6 z d rfl
theorem mk_4 (z : Nat) (d : Nat → av_V) : av_mk (cm N L c s t h) 4 6 z d = cm N L (c + 1) (s + z) (tu t 4) (hn h 4 (t 4) d) := cx_mk N L c s t h 4 6 z d rfl
theorem mk_5 (z : Nat) (d : Nat → av_V) : av_mk (cm N L c s t h) 5 6 z d = cm N L (c + 1) (s + z) (tu t 5) (hn h 5 (t 5) d) := cx_mk N L c s t h 5 6 z d rfl
theorem mk_6 (z : Nat) (d : Nat → av_V) : av_mk (cm N L c s t h) 6 2 z d = cm N L (c + 1) (s + z) (tu t 6) (hn h 6 (t 6) d) := cx_mk N L c s t h 6 2 z d rfl
theorem mk_9 (z : Nat) (d : Nat → av_V) : av_mk (cm N L c s t h) 9 4 z d = cm N L (c + 1) (s + z) (tu t 9) (hn h 9 (t 9) d) := cx_mk N L c s t h 9 4 z d rfl
theorem mk_10 (z : Nat) (d : Nat → av_V) : av_mk (cm N L c s t h) 10 80 z d = cm N L (c + 1) (s + z) (tu t 10) (hn h 10 (t 10) d) := cx_mk N L c s t h 10 80 z d rfl
theorem mk_11 (z : Nat) (d : Nat → av_V) : av_mk (cm N L c s t h) 11 4 z d = cm N L (c + 1) (s + z) (tu t 11) (hn h 11 (t 11) d) := cx_mk N L c s t h 11 4 z d rfl
theorem mk_12 (z : Nat) (d : Nat → av_V) : av_mk (cm N L c s t h) 12 6 z d = cm N L (c + 1) (s + z) (tu t 12) (hn h 12 (t 12) d) := cx_mk N L c s t h 12 6 z d rfl
theorem mk_13 (z : Nat) (d : Nat → av_V) : av_mk (cm N L c s t h) 13 4 z d = cm N L (c + 1) (s + z) (tu t 13) (hn h 13 (t 13) d) := cx_mk N L c s t h 13 4 z d rfl
theorem mk_14 (z : Nat) (d : Nat → av_V) : av_mk (cm N L c s t h) 14 61 z d = cm N L (c + 1) (s + z) (tu t 14) (hn h 14 (t 14) d) := cx_mk N L c s t h 14 61 z d rfl
theorem mk_15 (z : Nat) (d : Nat → av_V) : av_mk (cm N L c s t h) 15 61 z d = cm N L (c + 1) (s + z) (tu t 15) (hn h 15 (t 15) d) := cx_mk N L c s t h 15 61 z d rfl
theorem mk_16 (z : Nat) (d : Nat → av_V) : av_mk (cm N L c s t h) 16 61 z d = cm N L (c + 1) (s + z) (tu t 16) (hn h 16 (t 16) d) := cx_mk N L c s t h 16 61 z d rfl
theorem mk_17 (z : Nat) (d : Nat → av_V) : av_mk (cm N L c s t h) 17 80 z d = cm N L (c + 1) (s + z) (tu t 17) (hn h 17 (t 17) d) := cx_mk N L c s t h 17 80 z d rfl
theorem mk_18 (z : Nat) (d : Nat → av_V) : av_mk (cm N L c s t h) 18 10 z d = cm N L (c + 1) (s + z) (tu t 18) (hn h 18 (t 18) d) := cx_mk N L c s t h 18 10 z d rfl
theorem mk_19 (z : Nat) (d : Nat → av_V) : av_mk (cm N L c s t h) 19 2 z d = cm N L (c + 1) (s + z) (tu t 19) (hn h 19 (t 19) d) := cx_mk N L c s t h 19 2 z d rfl
theorem mk_22 (z : Nat) (d : Nat → av_V) : av_mk (cm N L c s t h) 22 10 z d = cm N L (c + 1) (s + z) (tu t 22) (hn h 22 (t 22) d) := cx_mk N L c s t h 22 10 z d rfl
theorem mk_27 (z : Nat) (d : Nat → av_V) : av_mk (cm N L c s t h) 27 3 z d = cm N L (c + 1) (s + z) (tu t 27) (hn h 27 (t 27) d) := cx_mk N L c s t h 27 3 z d rfl
theorem mk_29 (z : Nat) (d : Nat → av_V) : av_mk (cm N L c s t h) 29 4 z d = cm N L (c + 1) (s + z) (tu t 29) (hn h 29 (t 29) d) := cx_mk N L c s t h 29 4 z d rfl
theorem mk_36 (z : Nat) (d : Nat → av_V) : av_mk (cm N L c s t h) 36 40 z d = cm N L (c + 1) (s + z) (tu t 36) (hn h 36 (t 36) d) := cx_mk N L c s t h 36 40 z d rfl
theorem mk_37 (z : Nat) (d : Nat → av_V) : av_mk (cm N L c s t h) 37 10 z d = cm N L (c + 1) (s + z) (tu t 37) (hn h 37 (t 37) d) := cx_mk N L c s t h 37 10 z d rfl
theorem mk_38 (z : Nat) (d : Nat → av_V) : av_mk (cm N L c s t h) 38 10 z d = cm N L (c + 1) (s + z) (tu t 38) (hn h 38 (t 38) d) := cx_mk N L c s t h 38 10 z d rfl
theorem mk_39 (z : Nat) (d : Nat → av_V) : av_mk (cm N L c s t h) 39 40 z d = cm N L (c + 1) (s + z) (tu t 39) (hn h 39 (t 39) d) := cx_mk N L c s t h 39 40 z d rfl
theorem mk_40 (z : Nat) (d : Nat → av_V) : av_mk (cm N L c s t h) 40 160 z d = cm N L (c + 1) (s + z) (tu t 40) (hn h 40 (t 40) d) := cx_mk N L c s t h 40 160 z d rfl
theorem mk_41 (z : Nat) (d : Nat → av_V) : av_mk (cm N L c s t h) 41 61 z d = cm N L (c + 1) (s + z) (tu t 41) (hn h 41 (t 41) d) := cx_mk N L c s t h 41 61 z d rfl
theorem mk_42 (z : Nat) (d : Nat → av_V) : av_mk (cm N L c s t h) 42 61 z d = cm N L (c + 1) (s + z) (tu t 42) (hn h 42 (t 42) d) := cx_mk N L c s t h 42 61 z d rfl
theorem mk_43 (z : Nat) (d : Nat → av_V) : av_mk (cm N L c s t h) 43 61 z d = cm N L (c + 1) (s + z) (tu t 43) (hn h 43 (t 43) d) := cx_mk N L c s t h 43 61 z d rfl
theorem mk_44 (z : Nat) (d : Nat → av_V) : av_mk (cm N L c s t h) 44 80 z d = cm N L (c + 1) (s + z) (tu t 44) (hn h 44 (t 44) d) := cx_mk N L c s t h 44 80 z d rfl
theorem mk_45 (z : Nat) (d : Nat → av_V) : av_mk (cm N L c s t h) 45 4 z d = cm N L (c + 1) (s + z) (tu t 45) (hn h 45 (t 45) d) := cx_mk N L c s t h 45 4 z d rfl
theorem mk_46 (z : Nat) (d : Nat → av_V) : av_mk (cm N L c s t h) 46 6 z d = cm N L (c + 1) (s + z) (tu t 46) (hn h 46 (t 46) d) := cx_mk N L c s t h 46 6 z d rfl
theorem mk_47 (z : Nat) (d : Nat → av_V) : av_mk (cm N L c s t h) 47 480 z d = cm N L (c + 1) (s + z) (tu t 47) (hn h 47 (t 47) d) := cx_mk N L c s t h 47 480 z d rfl
theorem mk_48 (z : Nat) (d : Nat → av_V) : av_mk (cm N L c s t h) 48 480 z d = cm N L (c + 1) (s + z) (tu t 48) (hn h 48 (t 48) d) := cx_mk N L c s t h 48 480 z d rfl
theorem mk_49 (z : Nat) (d : Nat → av_V) : av_mk (cm N L c s t h) 49 60 z d = cm N L (c + 1) (s + z) (tu t 49) (hn h 49 (t 49) d) := cx_mk N L c s t h 49 60 z d rfl
theorem mk_50 (z : Nat) (d : Nat → av_V) : av_mk (cm N L c s t h) 50 3 z d = cm N L (c + 1) (s + z) (tu t 50) (hn h 50 (t 50) d) := cx_mk N L c s t h 50 3 z d rfl
theorem mk_51 (z : Nat) (d : Nat → av_V) : av_mk (cm N L c s t h) 51 3 z d = cm N L (c + 1) (s + z) (tu t 51) (hn h 51 (t 51) d) := cx_mk N L c s t h 51 3 z d rfl
theorem mk_52 (z : Nat) (d : Nat → av_V) : av_mk (cm N L c s t h) 52 3 z d = cm N L (c + 1) (s + z) (tu t 52) (hn h 52 (t 52) d) := cx_mk N L c s t h 52 3 z d rfl
theorem mk_53 (z : Nat) (d : Nat → av_V) : av_mk (cm N L c s t h) 53 3 z d = cm N L (c + 1) (s + z) (tu t 53) (hn h 53 (t 53) d) := cx_mk N L c s t h 53 3 z d rfl
theorem mk_54 (z : Nat) (d : Nat → av_V) : av_mk (cm N L c s t h) 54 3 z d = cm N L (c + 1) (s + z) (tu t 54) (hn h 54 (t 54) d) := cx_mk N L c s t h 54 3 z d rfl
theorem mk_55 (z : Nat) (d : Nat → av_V) : av_mk (cm N L c s t h) 55 18 z d = cm N L (c + 1) (s + z) (tu t 55) (hn h 55 (t 55) d) := cx_mk N L c s t h 55 18 z d rfl
theorem mk_56 (z : Nat) (d : Nat → av_V) : av_mk (cm N L c s t h) 56 3 z d = cm N L (c + 1) (s + z) (tu t 56) (hn h 56 (t 56) d) := cx_mk N L c s t h 56 3 z d rfl
theorem mk_57 (z : Nat) (d : Nat → av_V) : av_mk (cm N L c s t h) 57 18 z d = cm N L (c + 1) (s + z) (tu t 57) (hn h 57 (t 57) d) := cx_mk N L c s t h 57 18 z d rfl
theorem mk_58 (z : Nat) (d : Nat → av_V) : av_mk (cm N L c s t h) 58 18 z d = cm N L (c + 1) (s + z) (tu t 58) (hn h 58 (t 58) d) := cx_mk N L c s t h 58 18 z d rfl
theorem mk_59 (z : Nat) (d : Nat → av_V) : av_mk (cm N L c s t h) 59 480 z d = cm N L (c + 1) (s + z) (tu t 59) (hn h 59 (t 59) d) := cx_mk N L c s t h 59 480 z d rfl
theorem mk_60 (z : Nat) (d : Nat → av_V) : av_mk (cm N L c s t h) 60 480 z d = cm N L (c + 1) (s + z) (tu t 60) (hn h 60 (t 60) d) := cx_mk N L c s t h 60 480 z d rfl
theorem mk_61 (z : Nat) (d : Nat → av_V) : av_mk (cm N L c s t h) 61 24 z d = cm N L (c + 1) (s + z) (tu t 61) (hn h 61 (t 61) d) := cx_mk N L c s t h 61 24 z d rfl
theorem mk_62 (z : Nat) (d : Nat → av_V) : av_mk (cm N L c s t h) 62 6 z d = cm N L (c + 1) (s + z) (tu t 62) (hn h 62 (t 62) d) := cx_mk N L c s t h 62 6 z d rfl
theorem mk_63 (z : Nat) (d : Nat → av_V) : av_mk (cm N L c s t h) 63 70 z d = cm N L (c + 1) (s + z) (tu t 63) (hn h 63 (t 63) d) := cx_mk N L c s t h 63 70 z d rfl
theorem mk_66 (z : Nat) (d : Nat → av_V) : av_mk (cm N L c s t h) 66 1 z d = cm N L (c + 1) (s + z) (tu t 66) (hn h 66 (t 66) d) := cx_mk N L c s t h 66 1 z d rfl
theorem mk_7 (z : Nat) (d : Nat → av_V) : av_mk (cm N L c s t h) 7 0 z d = cm N L (c + 1) (s + z) (tu t 7) (hn h 7 (t 7) d) := cx_mk N L c s t h 7 0 z d rfl
theorem mk_8 (z : Nat) (d : Nat → av_V) : av_mk (cm N L c s t h) 8 0 z d = cm N L (c + 1) (s + z) (tu t 8) (hn h 8 (t 8) d) := cx_mk N L c s t h 8 0 z d rfl
theorem mk_20 (z : Nat) (d : Nat → av_V) : av_mk (cm N L c s t h) 20 0 z d = cm N L (c + 1) (s + z) (tu t 20) (hn h 20 (t 20) d) := cx_mk N L c s t h 20 0 z d rfl
theorem mk_21 (z : Nat) (d : Nat → av_V) : av_mk (cm N L c s t h) 21 0 z d = cm N L (c + 1) (s + z) (tu t 21) (hn h 21 (t 21) d) := cx_mk N L c s t h 21 0 z d rfl
theorem mk_23 (z : Nat) (d : Nat → av_V) : av_mk (cm N L c s t h) 23 0 z d = cm N L (c + 1) (s + z) (tu t 23) (hn h 23 (t 23) d) := cx_mk N L c s t h 23 0 z d rfl
theorem mk_24 (z : Nat) (d : Nat → av_V) : av_mk (cm N L c s t h) 24 0 z d = cm N L (c + 1) (s + z) (tu t 24) (hn h 24 (t 24) d) := cx_mk N L c s t h 24 0 z d rfl
theorem mk_26 (z : Nat) (d : Nat → av_V) : av_mk (cm N L c s t h) 26 0 z d = cm N L (c + 1) (s + z) (tu t 26) (hn h 26 (t 26) d) := cx_mk N L c s t h 26 0 z d rfl
theorem mk_28 (z : Nat) (d : Nat → av_V) : av_mk (cm N L c s t h) 28 0 z d = cm N L (c + 1) (s + z) (tu t 28) (hn h 28 (t 28) d) := cx_mk N L c s t h 28 0 z d rfl
theorem mk_64 (z : Nat) (d : Nat → av_V) : av_mk (cm N L c s t h) 64 0 z d = cm N L (c + 1) (s + z) (tu t 64) (hn h 64 (t 64) d) := cx_mk N L c s t h 64 0 z d rfl
theorem mk_65 (z : Nat) (d : Nat → av_V) : av_mk (cm N L c s t h) 65 0 z d = cm N L (c + 1) (s + z) (tu t 65) (hn h 65 (t 65) d) := cx_mk N L c s t h 65 0 z d rfl
theorem td_1 : (1 : Int32).toNatClampNeg = 1 := rfl
theorem od_1 : av_outD 1 1000 = false := by decide
theorem td_2 : (2 : Int32).toNatClampNeg = 2 := rfl
theorem od_2 : av_outD 2 1000 = false := by decide
theorem td_3 : (3 : Int32).toNatClampNeg = 3 := rfl
theorem od_3 : av_outD 3 1000 = false := by decide
theorem td_4 : (4 : Int32).toNatClampNeg = 4 := rfl
theorem od_4 : av_outD 4 1000 = false := by decide
theorem td_6 : (6 : Int32).toNatClampNeg = 6 := rfl
theorem od_6 : av_outD 6 1000 = false := by decide
theorem td_10 : (10 : Int32).toNatClampNeg = 10 := rfl
theorem od_10 : av_outD 10 1000 = false := by decide
theorem td_18 : (18 : Int32).toNatClampNeg = 18 := rfl
theorem od_18 : av_outD 18 1000 = false := by decide
theorem td_24 : (24 : Int32).toNatClampNeg = 24 := rfl
theorem od_24 : av_outD 24 1000 = false := by decide
theorem td_40 : (40 : Int32).toNatClampNeg = 40 := rfl
theorem od_40 : av_outD 40 1000 = false := by decide
theorem td_60 : (60 : Int32).toNatClampNeg = 60 := rfl
theorem od_60 : av_outD 60 1000 = false := by decide
theorem td_61 : (61 : Int32).toNatClampNeg = 61 := rfl
theorem od_61 : av_outD 61 1000 = false := by decide
theorem td_70 : (70 : Int32).toNatClampNeg = 70 := rfl
theorem od_70 : av_outD 70 1000 = false := by decide
theorem td_80 : (80 : Int32).toNatClampNeg = 80 := rfl
theorem od_80 : av_outD 80 1000 = false := by decide
theorem td_160 : (160 : Int32).toNatClampNeg = 160 := rfl
theorem od_160 : av_outD 160 1000 = false := by decide
theorem td_480 : (480 : Int32).toNatClampNeg = 480 := rfl
theorem od_480 : av_outD 480 1000 = false := by decide
theorem ln_1 : mlen N L 1 = 10 := rfl
theorem ln_2 : mlen N L 2 = 10 := rfl
theorem ln_3 : mlen N L 3 = 6 := rfl
theorem ln_4 : mlen N L 4 = 6 := rfl
theorem ln_5 : mlen N L 5 = 6 := rfl
theorem ln_6 : mlen N L 6 = 2 := rfl
theorem ln_9 : mlen N L 9 = 4 := rfl
theorem ln_10 : mlen N L 10 = 80 := rfl
theorem ln_11 : mlen N L 11 = 4 := rfl
theorem ln_12 : mlen N L 12 = 6 := rfl
theorem ln_13 : mlen N L 13 = 4 := rfl
theorem ln_14 : mlen N L 14 = 61 := rfl
theorem ln_15 : mlen N L 15 = 61 := rfl
theorem ln_16 : mlen N L 16 = 61 := rfl
theorem ln_17 : mlen N L 17 = 80 := rfl
theorem ln_18 : mlen N L 18 = 10 := rfl
theorem ln_19 : mlen N L 19 = 2 := rfl
theorem ln_22 : mlen N L 22 = 10 := rfl
theorem ln_27 : mlen N L 27 = 3 := rfl
theorem ln_29 : mlen N L 29 = 4 := rfl
theorem ln_36 : mlen N L 36 = 40 := rfl
theorem ln_37 : mlen N L 37 = 10 := rfl
theorem ln_38 : mlen N L 38 = 10 := rfl
theorem ln_39 : mlen N L 39 = 40 := rfl
theorem ln_40 : mlen N L 40 = 160 := rfl
theorem ln_41 : mlen N L 41 = 61 := rfl
theorem ln_42 : mlen N L 42 = 61 := rfl
theorem ln_43 : mlen N L 43 = 61 := rfl
theorem ln_44 : mlen N L 44 = 80 := rfl
theorem ln_45 : mlen N L 45 = 4 := rfl
theorem ln_46 : mlen N L 46 = 6 := rfl
theorem ln_47 : mlen N L 47 = 480 := rfl
theorem ln_48 : mlen N L 48 = 480 := rfl
theorem ln_49 : mlen N L 49 = 60 := rfl
theorem ln_50 : mlen N L 50 = 3 := rfl
theorem ln_51 : mlen N L 51 = 3 := rfl
theorem ln_52 : mlen N L 52 = 3 := rfl
theorem ln_53 : mlen N L 53 = 3 := rfl
theorem ln_54 : mlen N L 54 = 3 := rfl
theorem ln_55 : mlen N L 55 = 18 := rfl
theorem ln_56 : mlen N L 56 = 3 := rfl
theorem ln_57 : mlen N L 57 = 18 := rfl
theorem ln_58 : mlen N L 58 = 18 := rfl
theorem ln_59 : mlen N L 59 = 480 := rfl
theorem ln_60 : mlen N L 60 = 480 := rfl
theorem ln_61 : mlen N L 61 = 24 := rfl
theorem ln_62 : mlen N L 62 = 6 := rfl
theorem ln_63 : mlen N L 63 = 70 := rfl
theorem ln_66 : mlen N L 66 = 1 := rfl
theorem l_fl (f i n : Nat) (v : Int32) (d : Nat → av_V) (hf : av_kd f = 20) (e : mlen N L f = n) (hn2 : n < 65536) : ∀ (m j : Nat), j + m = n → av_run 168 5 [some (.inr (.inr (some (f, i)))), some (.inl v), some (.inl (nI j)), some (.inl (nI n))] [] (cm N L c s t (hn h f i (fun k => if k < j then .inl v else d k))) = some (.inl none, cm N L c s t (hn h f i (fun k => if k < n then .inl v else d k))) := by
  intro m
  induction m with
  | zero =>
    intro j hj
    have h1 : (nI n ≤ nI j) = True := by rw [iI_le (by omega) (by omega)]; exact eq_true (by omega)
    rw [s_168_5]
    simp only [s_168_6, s_168_7, s_168_20, h1, ↓reduceIte]
    rw [show j = n by omega]
  | succ m ih =>
    intro j hj
    have h1 : (nI n ≤ nI j) = False := by rw [iI_le (by omega) (by omega)]; exact eq_false (by omega)
    have h3 : av_outD (nI j) n = false := ix (by omega) (by omega)
    have h4 : (nI j).toNatClampNeg = j := tn (by omega)
    have h5 : du (fun k => if k < j then .inl v else d k) j (.inl v) = fun k => if k < j + 1 then .inl v else d k := by
      funext k
      unfold du
      by_cases y : k = j
      · rw [if_pos y, if_pos (by omega)]
      · rw [if_neg y]
        dsimp only
        by_cases z : k < j
        · rw [if_pos z, if_pos (by omega)]
        · rw [if_neg z, if_neg (by omega)]
    rw [s_168_5]
    simp only [s_168_6, s_168_7, s_168_10, s_168_11, s_168_12, s_168_13, s_168_14, s_168_17, h1, cx_len, e, h3, h4, cx_wr, hu_s, h5, hf, isI_1, ↓reduceIte, and_self, iI_s]
    exact ih (j + 1) (by omega)
theorem fl_c (f i n : Nat) (v : Int32) (d : Nat → av_V) (hf : av_kd f = 20) (e : mlen N L f = n) (hn2 : n < 65536) : av_cal 168 [.inr (.inr (some (f, i))), .inl v] (cm N L c s t (hn h f i d)) = some (.inl none, cm N L c s t (hn h f i (fun k => if k < n then .inl v else d k))) := by
  show av_run 168 0 [some (.inr (.inr (some (f, i)))), some (.inl v), none, none] [] _ = _
  simp only [s_168_0, s_168_1, s_168_2, s_168_3, s_168_4, hf, cx_len, e, Nat.reduceLeDiff, Nat.reduceLT, and_self, ↓reduceIte]
  have := l_fl N L c s t h f i n v d hf e hn2 n 0 (by omega)
  rw [show (fun k => if k < 0 then (.inl v : av_V) else d k) = d from funext (fun k => if_neg (Nat.not_lt_zero k))] at this
  exact this
theorem fl_10 (i : Nat) (v : Int32) (d : Nat → av_V) : av_cal 168 [.inr (.inr (some (10, i))), .inl v] (cm N L c s t (hn h 10 i d)) = some (.inl none, cm N L c s t (hn h 10 i (fun k => if k < 80 then .inl v else d k))) := fl_c N L c s t h 10 i 80 v d rfl rfl (by decide)
theorem fl_11 (i : Nat) (v : Int32) (d : Nat → av_V) : av_cal 168 [.inr (.inr (some (11, i))), .inl v] (cm N L c s t (hn h 11 i d)) = some (.inl none, cm N L c s t (hn h 11 i (fun k => if k < 4 then .inl v else d k))) := fl_c N L c s t h 11 i 4 v d rfl rfl (by decide)
theorem kc_30_8 (i : Nat) (h22 : ∀ k, h 22 (t 22) k = .inl 0) (hX : ∀ k, h 8 i k = (du (fun k => av_dv (tl_ty 6 k)) 0 (.inr (.inr (some (22, t 22))))) k) : av_cal 30 [.inr (.inr (some (8, i)))] (cm N L c s t (hn h 8 i (fun k => av_dv (tl_ty 6 k)))) = some (.inl none, cm N L (c + 1) (s + 10) (tu t 22) h) := by
  show av_run 30 0 [some (.inr (.inr (some (8, i))))] [] _ = _
  simp only [s_30_0, s_30_1, s_30_4, s_30_5, s_30_7, s_30_9, s_30_12, ctc_30, kd_0, kd_1, kd_2, kd_3, kd_4, kd_5, kd_6, kd_7, kd_8, kd_9, kd_10, kd_11, kd_12, kd_13, kd_14, kd_15, kd_16, kd_17, kd_18, kd_19, kd_20, kd_21, kd_22, kd_23, kd_24, kd_25, kd_26, kd_27, kd_28, kd_29, kd_30, kd_31, kd_32, kd_33, kd_34, kd_35, kd_36, kd_37, kd_38, kd_39, kd_40, kd_41, kd_42, kd_43, kd_44, kd_45, kd_46, kd_47, kd_48, kd_49, kd_50, kd_51, kd_52, kd_53, kd_54, kd_55, kd_56, kd_57, kd_58, kd_59, kd_60, kd_61, kd_62, kd_63, kd_64, kd_65, kd_66, v_0, v_1, v_2, v_3, v_4, v_5, v_7_0, v_7_1, v_9, v_10, v_11, v_12, v_13, v_14, v_15, v_16, v_17, v_20_0, v_20_1, v_20_2, v_22, v_23_0, v_23_1, v_23_2, v_23_3, v_24_0, v_26_0, v_26_1, v_28_0, v_28_1, v_28_2, v_28_3, v_28_4, v_28_5, v_28_6, v_29, v_36, v_37, v_38, v_39, v_40, v_41, v_42, v_43, v_44, v_45, v_46, v_47, v_48, v_49, v_50, v_51, v_52, v_53, v_54, v_55, v_56, v_57, v_58, v_59, v_60, v_61, v_62, v_63, v_64_0, v_64_1, v_64_2, v_65_0, v_65_1, v_65_2, v_65_3, v_65_4, v_65_5, v_65_6, v_65_7, v_65_8, v_65_14, v_65_37, v_26_2, v_26_3, v_28_7, v_28_8, v_28_9, v_28_10, v_7_2, v_7_3, v_7_4, v_20_3, v_20_4, v_20_5, v_24_1, v_24_2, v_24_3, v_24_4, v_23_4, v_23_5, v_8_0, v_21_0, v_64_3, v_64_4, v_64_5, v_64_6, v_64_7, v_65_9, v_65_10, v_65_11, v_65_12, v_65_13, v_65_15, v_65_16, v_65_17, v_65_18, v_65_19, v_65_20, v_65_21, v_65_22, v_65_23, v_65_24, v_65_25, v_65_26, v_65_27, v_65_28, v_65_29, v_65_30, v_65_31, v_65_32, v_65_33, v_65_34, v_65_35, v_65_36, v_65_38, v_6, v_18, v_19, v_25, v_27, v_66, n_0, n_25, n_1, n_2, n_3, n_4, n_5, n_6, n_9, n_10, n_11, n_12, n_13, n_14, n_15, n_16, n_17, n_18, n_19, n_22, n_27, n_29, n_66, n_36, n_37, n_38, n_39, n_40, n_41, n_42, n_43, n_44, n_45, n_46, n_47, n_48, n_49, n_50, n_51, n_52, n_53, n_54, n_55, n_56, n_57, n_58, n_59, n_60, n_61, n_62, n_63, mi_0, mi_1, mi_2, mi_3, mi_4, mi_5, mi_7_0, mi_7_1, mi_9, mi_10, mi_11, mi_12, mi_13, mi_14, mi_15, mi_16, mi_17, mi_20_0, mi_20_1, mi_20_2, mi_22, mi_23_0, mi_23_1, mi_23_2, mi_23_3, mi_24_0, mi_26_0, mi_26_1, mi_28_0, mi_28_1, mi_28_2, mi_28_3, mi_28_4, mi_28_5, mi_28_6, mi_29, mi_36, mi_37, mi_38, mi_39, mi_40, mi_41, mi_42, mi_43, mi_44, mi_45, mi_46, mi_47, mi_48, mi_49, mi_50, mi_51, mi_52, mi_53, mi_54, mi_55, mi_56, mi_57, mi_58, mi_59, mi_60, mi_61, mi_62, mi_63, mi_64_0, mi_64_1, mi_64_2, mi_65_0, mi_65_1, mi_65_2, mi_65_3, mi_65_4, mi_65_5, mi_65_6, mi_65_7, mi_65_8, mi_65_14, mi_65_37, mm_out, wt_0, wt_1, wt_2, wt_3, isI_1, isL_1, isZ_1, av_bind_ret, av_bind_thr, Option.toList_some, Option.toList_none, List.cons_append, List.nil_append, ↓reduceIte, Nat.reduceAdd, Nat.reduceLeDiff, Nat.reduceLT, Nat.reduceEqDiff, and_self, true_and, and_true, or_true, true_or, or_false, false_or, eq_self, not_true_eq_false, not_false_eq_true, w_0, w_1, w_2, w_3, w_4, w_5, w_7_0, w_7_1, w_9, w_10, w_11, w_12, w_13, w_14, w_15, w_16, w_17, w_20_0, w_20_1, w_20_2, w_22, w_23_0, w_23_1, w_23_2, w_23_3, w_24_0, w_26_0, w_26_1, w_28_0, w_28_1, w_28_2, w_28_3, w_28_4, w_28_5, w_28_6, w_29, w_36, w_37, w_38, w_39, w_40, w_41, w_42, w_43, w_44, w_45, w_46, w_47, w_48, w_49, w_50, w_51, w_52, w_53, w_54, w_55, w_56, w_57, w_58, w_59, w_60, w_61, w_62, w_63, w_64_0, w_64_1, w_64_2, w_65_0, w_65_1, w_65_2, w_65_3, w_65_4, w_65_5, w_65_6, w_65_7, w_65_8, w_65_14, w_65_37, cx_cnt, cx_val, cx_len, cx_wr, mk_1, mk_2, mk_3, mk_4, mk_5, mk_6, mk_9, mk_10, mk_11, mk_12, mk_13, mk_14, mk_15, mk_16, mk_17, mk_18, mk_19, mk_22, mk_27, mk_29, mk_36, mk_37, mk_38, mk_39, mk_40, mk_41, mk_42, mk_43, mk_44, mk_45, mk_46, mk_47, mk_48, mk_49, mk_50, mk_51, mk_52, mk_53, mk_54, mk_55, mk_56, mk_57, mk_58, mk_59, mk_60, mk_61, mk_62, mk_63, mk_66, mk_7, mk_8, mk_20, mk_21, mk_23, mk_24, mk_26, mk_28, mk_64, mk_65, td_1, td_2, td_3, td_4, td_6, td_10, td_18, td_24, td_40, td_60, td_61, td_70, td_80, td_160, td_480, od_1, od_2, od_3, od_4, od_6, od_10, od_18, od_24, od_40, od_60, od_61, od_70, od_80, od_160, od_480, ln_1, ln_2, ln_3, ln_4, ln_5, ln_6, ln_9, ln_10, ln_11, ln_12, ln_13, ln_14, ln_15, ln_16, ln_17, ln_18, ln_19, ln_22, ln_27, ln_29, ln_36, ln_37, ln_38, ln_39, ln_40, ln_41, ln_42, ln_43, ln_44, ln_45, ln_46, ln_47, ln_48, ln_49, ln_50, ln_51, ln_52, ln_53, ln_54, ln_55, ln_56, ln_57, ln_58, ln_59, ln_60, ln_61, ln_62, ln_63, ln_66, hu_s, hu_o, hn_s, hn_o, du_s, du_o, tu_s, tu_o]
  rw [hn_i2 (by decide) h22, hn_id hX]
theorem kc_30_21 (i : Nat) (h22 : ∀ k, h 22 (t 22) k = .inl 0) (hX : ∀ k, h 21 i k = (du (fun k => av_dv (tl_ty 6 k)) 0 (.inr (.inr (some (22, t 22))))) k) : av_cal 30 [.inr (.inr (some (21, i)))] (cm N L c s t (hn h 21 i (fun k => av_dv (tl_ty 6 k)))) = some (.inl none, cm N L (c + 1) (s + 10) (tu t 22) h) := by
  show av_run 30 0 [some (.inr (.inr (some (21, i))))] [] _ = _
  simp only [s_30_0, s_30_1, s_30_4, s_30_5, s_30_7, s_30_9, s_30_12, ctc_30, kd_0, kd_1, kd_2, kd_3, kd_4, kd_5, kd_6, kd_7, kd_8, kd_9, kd_10, kd_11, kd_12, kd_13, kd_14, kd_15, kd_16, kd_17, kd_18, kd_19, kd_20, kd_21, kd_22, kd_23, kd_24, kd_25, kd_26, kd_27, kd_28, kd_29, kd_30, kd_31, kd_32, kd_33, kd_34, kd_35, kd_36, kd_37, kd_38, kd_39, kd_40, kd_41, kd_42, kd_43, kd_44, kd_45, kd_46, kd_47, kd_48, kd_49, kd_50, kd_51, kd_52, kd_53, kd_54, kd_55, kd_56, kd_57, kd_58, kd_59, kd_60, kd_61, kd_62, kd_63, kd_64, kd_65, kd_66, v_0, v_1, v_2, v_3, v_4, v_5, v_7_0, v_7_1, v_9, v_10, v_11, v_12, v_13, v_14, v_15, v_16, v_17, v_20_0, v_20_1, v_20_2, v_22, v_23_0, v_23_1, v_23_2, v_23_3, v_24_0, v_26_0, v_26_1, v_28_0, v_28_1, v_28_2, v_28_3, v_28_4, v_28_5, v_28_6, v_29, v_36, v_37, v_38, v_39, v_40, v_41, v_42, v_43, v_44, v_45, v_46, v_47, v_48, v_49, v_50, v_51, v_52, v_53, v_54, v_55, v_56, v_57, v_58, v_59, v_60, v_61, v_62, v_63, v_64_0, v_64_1, v_64_2, v_65_0, v_65_1, v_65_2, v_65_3, v_65_4, v_65_5, v_65_6, v_65_7, v_65_8, v_65_14, v_65_37, v_26_2, v_26_3, v_28_7, v_28_8, v_28_9, v_28_10, v_7_2, v_7_3, v_7_4, v_20_3, v_20_4, v_20_5, v_24_1, v_24_2, v_24_3, v_24_4, v_23_4, v_23_5, v_8_0, v_21_0, v_64_3, v_64_4, v_64_5, v_64_6, v_64_7, v_65_9, v_65_10, v_65_11, v_65_12, v_65_13, v_65_15, v_65_16, v_65_17, v_65_18, v_65_19, v_65_20, v_65_21, v_65_22, v_65_23, v_65_24, v_65_25, v_65_26, v_65_27, v_65_28, v_65_29, v_65_30, v_65_31, v_65_32, v_65_33, v_65_34, v_65_35, v_65_36, v_65_38, v_6, v_18, v_19, v_25, v_27, v_66, n_0, n_25, n_1, n_2, n_3, n_4, n_5, n_6, n_9, n_10, n_11, n_12, n_13, n_14, n_15, n_16, n_17, n_18, n_19, n_22, n_27, n_29, n_66, n_36, n_37, n_38, n_39, n_40, n_41, n_42, n_43, n_44, n_45, n_46, n_47, n_48, n_49, n_50, n_51, n_52, n_53, n_54, n_55, n_56, n_57, n_58, n_59, n_60, n_61, n_62, n_63, mi_0, mi_1, mi_2, mi_3, mi_4, mi_5, mi_7_0, mi_7_1, mi_9, mi_10, mi_11, mi_12, mi_13, mi_14, mi_15, mi_16, mi_17, mi_20_0, mi_20_1, mi_20_2, mi_22, mi_23_0, mi_23_1, mi_23_2, mi_23_3, mi_24_0, mi_26_0, mi_26_1, mi_28_0, mi_28_1, mi_28_2, mi_28_3, mi_28_4, mi_28_5, mi_28_6, mi_29, mi_36, mi_37, mi_38, mi_39, mi_40, mi_41, mi_42, mi_43, mi_44, mi_45, mi_46, mi_47, mi_48, mi_49, mi_50, mi_51, mi_52, mi_53, mi_54, mi_55, mi_56, mi_57, mi_58, mi_59, mi_60, mi_61, mi_62, mi_63, mi_64_0, mi_64_1, mi_64_2, mi_65_0, mi_65_1, mi_65_2, mi_65_3, mi_65_4, mi_65_5, mi_65_6, mi_65_7, mi_65_8, mi_65_14, mi_65_37, mm_out, wt_0, wt_1, wt_2, wt_3, isI_1, isL_1, isZ_1, av_bind_ret, av_bind_thr, Option.toList_some, Option.toList_none, List.cons_append, List.nil_append, ↓reduceIte, Nat.reduceAdd, Nat.reduceLeDiff, Nat.reduceLT, Nat.reduceEqDiff, and_self, true_and, and_true, or_true, true_or, or_false, false_or, eq_self, not_true_eq_false, not_false_eq_true, w_0, w_1, w_2, w_3, w_4, w_5, w_7_0, w_7_1, w_9, w_10, w_11, w_12, w_13, w_14, w_15, w_16, w_17, w_20_0, w_20_1, w_20_2, w_22, w_23_0, w_23_1, w_23_2, w_23_3, w_24_0, w_26_0, w_26_1, w_28_0, w_28_1, w_28_2, w_28_3, w_28_4, w_28_5, w_28_6, w_29, w_36, w_37, w_38, w_39, w_40, w_41, w_42, w_43, w_44, w_45, w_46, w_47, w_48, w_49, w_50, w_51, w_52, w_53, w_54, w_55, w_56, w_57, w_58, w_59, w_60, w_61, w_62, w_63, w_64_0, w_64_1, w_64_2, w_65_0, w_65_1, w_65_2, w_65_3, w_65_4, w_65_5, w_65_6, w_65_7, w_65_8, w_65_14, w_65_37, cx_cnt, cx_val, cx_len, cx_wr, mk_1, mk_2, mk_3, mk_4, mk_5, mk_6, mk_9, mk_10, mk_11, mk_12, mk_13, mk_14, mk_15, mk_16, mk_17, mk_18, mk_19, mk_22, mk_27, mk_29, mk_36, mk_37, mk_38, mk_39, mk_40, mk_41, mk_42, mk_43, mk_44, mk_45, mk_46, mk_47, mk_48, mk_49, mk_50, mk_51, mk_52, mk_53, mk_54, mk_55, mk_56, mk_57, mk_58, mk_59, mk_60, mk_61, mk_62, mk_63, mk_66, mk_7, mk_8, mk_20, mk_21, mk_23, mk_24, mk_26, mk_28, mk_64, mk_65, td_1, td_2, td_3, td_4, td_6, td_10, td_18, td_24, td_40, td_60, td_61, td_70, td_80, td_160, td_480, od_1, od_2, od_3, od_4, od_6, od_10, od_18, od_24, od_40, od_60, od_61, od_70, od_80, od_160, od_480, ln_1, ln_2, ln_3, ln_4, ln_5, ln_6, ln_9, ln_10, ln_11, ln_12, ln_13, ln_14, ln_15, ln_16, ln_17, ln_18, ln_19, ln_22, ln_27, ln_29, ln_36, ln_37, ln_38, ln_39, ln_40, ln_41, ln_42, ln_43, ln_44, ln_45, ln_46, ln_47, ln_48, ln_49, ln_50, ln_51, ln_52, ln_53, ln_54, ln_55, ln_56, ln_57, ln_58, ln_59, ln_60, ln_61, ln_62, ln_63, ln_66, hu_s, hu_o, hn_s, hn_o, du_s, du_o, tu_s, tu_o]
  rw [hn_i2 (by decide) h22, hn_id hX]
theorem kc_0 (i : Nat) (e1 : ∀ k, h 1 (t 1) k = .inl 0) (e2 : ∀ k, h 2 (t 2) k = .inl 0) (hX : ∀ k, h 26 i k = (du (du (du (fun k => av_dv (tl_ty 0 k)) 0 (.inl 1)) 2 (.inr (.inr (some (1, t 1))))) 3 (.inr (.inr (some (2, t 2))))) k) : av_cal 0 [.inr (.inr (some (26, i)))] (cm N L c s t (hn h 26 i (fun k => av_dv (tl_ty 0 k)))) = some (.inl none, cm N L (c + 1 + 1) (s + 10 + 10) (tu (tu t 1) 2) h) := by
  show av_run 0 0 [some (.inr (.inr (some (26, i))))] [] _ = _
  have z1 : ∀ D, hn (hn h 26 i D) 1 (t 1) (fun _ => .inl 0) = hn h 26 i D := fun D => hn_i2 (by decide) e1
  have z2 : ∀ D, hn (hn h 26 i D) 2 (t 2) (fun _ => .inl 0) = hn h 26 i D := fun D => hn_i2 (by decide) e2
  simp only [s_0_0, s_0_1, s_0_4, s_0_5, s_0_6, s_0_9, s_0_10, s_0_12, s_0_14, s_0_17, s_0_18, s_0_20, s_0_22, s_0_25, ctc_0, kd_0, kd_1, kd_2, kd_3, kd_4, kd_5, kd_6, kd_7, kd_8, kd_9, kd_10, kd_11, kd_12, kd_13, kd_14, kd_15, kd_16, kd_17, kd_18, kd_19, kd_20, kd_21, kd_22, kd_23, kd_24, kd_25, kd_26, kd_27, kd_28, kd_29, kd_30, kd_31, kd_32, kd_33, kd_34, kd_35, kd_36, kd_37, kd_38, kd_39, kd_40, kd_41, kd_42, kd_43, kd_44, kd_45, kd_46, kd_47, kd_48, kd_49, kd_50, kd_51, kd_52, kd_53, kd_54, kd_55, kd_56, kd_57, kd_58, kd_59, kd_60, kd_61, kd_62, kd_63, kd_64, kd_65, kd_66, v_0, v_1, v_2, v_3, v_4, v_5, v_7_0, v_7_1, v_9, v_10, v_11, v_12, v_13, v_14, v_15, v_16, v_17, v_20_0, v_20_1, v_20_2, v_22, v_23_0, v_23_1, v_23_2, v_23_3, v_24_0, v_26_0, v_26_1, v_28_0, v_28_1, v_28_2, v_28_3, v_28_4, v_28_5, v_28_6, v_29, v_36, v_37, v_38, v_39, v_40, v_41, v_42, v_43, v_44, v_45, v_46, v_47, v_48, v_49, v_50, v_51, v_52, v_53, v_54, v_55, v_56, v_57, v_58, v_59, v_60, v_61, v_62, v_63, v_64_0, v_64_1, v_64_2, v_65_0, v_65_1, v_65_2, v_65_3, v_65_4, v_65_5, v_65_6, v_65_7, v_65_8, v_65_14, v_65_37, v_26_2, v_26_3, v_28_7, v_28_8, v_28_9, v_28_10, v_7_2, v_7_3, v_7_4, v_20_3, v_20_4, v_20_5, v_24_1, v_24_2, v_24_3, v_24_4, v_23_4, v_23_5, v_8_0, v_21_0, v_64_3, v_64_4, v_64_5, v_64_6, v_64_7, v_65_9, v_65_10, v_65_11, v_65_12, v_65_13, v_65_15, v_65_16, v_65_17, v_65_18, v_65_19, v_65_20, v_65_21, v_65_22, v_65_23, v_65_24, v_65_25, v_65_26, v_65_27, v_65_28, v_65_29, v_65_30, v_65_31, v_65_32, v_65_33, v_65_34, v_65_35, v_65_36, v_65_38, v_6, v_18, v_19, v_25, v_27, v_66, n_0, n_25, n_1, n_2, n_3, n_4, n_5, n_6, n_9, n_10, n_11, n_12, n_13, n_14, n_15, n_16, n_17, n_18, n_19, n_22, n_27, n_29, n_66, n_36, n_37, n_38, n_39, n_40, n_41, n_42, n_43, n_44, n_45, n_46, n_47, n_48, n_49, n_50, n_51, n_52, n_53, n_54, n_55, n_56, n_57, n_58, n_59, n_60, n_61, n_62, n_63, mi_0, mi_1, mi_2, mi_3, mi_4, mi_5, mi_7_0, mi_7_1, mi_9, mi_10, mi_11, mi_12, mi_13, mi_14, mi_15, mi_16, mi_17, mi_20_0, mi_20_1, mi_20_2, mi_22, mi_23_0, mi_23_1, mi_23_2, mi_23_3, mi_24_0, mi_26_0, mi_26_1, mi_28_0, mi_28_1, mi_28_2, mi_28_3, mi_28_4, mi_28_5, mi_28_6, mi_29, mi_36, mi_37, mi_38, mi_39, mi_40, mi_41, mi_42, mi_43, mi_44, mi_45, mi_46, mi_47, mi_48, mi_49, mi_50, mi_51, mi_52, mi_53, mi_54, mi_55, mi_56, mi_57, mi_58, mi_59, mi_60, mi_61, mi_62, mi_63, mi_64_0, mi_64_1, mi_64_2, mi_65_0, mi_65_1, mi_65_2, mi_65_3, mi_65_4, mi_65_5, mi_65_6, mi_65_7, mi_65_8, mi_65_14, mi_65_37, mm_out, wt_0, wt_1, wt_2, wt_3, isI_1, isL_1, isZ_1, av_bind_ret, av_bind_thr, Option.toList_some, Option.toList_none, List.cons_append, List.nil_append, ↓reduceIte, Nat.reduceAdd, Nat.reduceLeDiff, Nat.reduceLT, Nat.reduceEqDiff, and_self, true_and, and_true, or_true, true_or, or_false, false_or, eq_self, not_true_eq_false, not_false_eq_true, w_0, w_1, w_2, w_3, w_4, w_5, w_7_0, w_7_1, w_9, w_10, w_11, w_12, w_13, w_14, w_15, w_16, w_17, w_20_0, w_20_1, w_20_2, w_22, w_23_0, w_23_1, w_23_2, w_23_3, w_24_0, w_26_0, w_26_1, w_28_0, w_28_1, w_28_2, w_28_3, w_28_4, w_28_5, w_28_6, w_29, w_36, w_37, w_38, w_39, w_40, w_41, w_42, w_43, w_44, w_45, w_46, w_47, w_48, w_49, w_50, w_51, w_52, w_53, w_54, w_55, w_56, w_57, w_58, w_59, w_60, w_61, w_62, w_63, w_64_0, w_64_1, w_64_2, w_65_0, w_65_1, w_65_2, w_65_3, w_65_4, w_65_5, w_65_6, w_65_7, w_65_8, w_65_14, w_65_37, cx_cnt, cx_val, cx_len, cx_wr, mk_1, mk_2, mk_3, mk_4, mk_5, mk_6, mk_9, mk_10, mk_11, mk_12, mk_13, mk_14, mk_15, mk_16, mk_17, mk_18, mk_19, mk_22, mk_27, mk_29, mk_36, mk_37, mk_38, mk_39, mk_40, mk_41, mk_42, mk_43, mk_44, mk_45, mk_46, mk_47, mk_48, mk_49, mk_50, mk_51, mk_52, mk_53, mk_54, mk_55, mk_56, mk_57, mk_58, mk_59, mk_60, mk_61, mk_62, mk_63, mk_66, mk_7, mk_8, mk_20, mk_21, mk_23, mk_24, mk_26, mk_28, mk_64, mk_65, td_1, td_2, td_3, td_4, td_6, td_10, td_18, td_24, td_40, td_60, td_61, td_70, td_80, td_160, td_480, od_1, od_2, od_3, od_4, od_6, od_10, od_18, od_24, od_40, od_60, od_61, od_70, od_80, od_160, od_480, ln_1, ln_2, ln_3, ln_4, ln_5, ln_6, ln_9, ln_10, ln_11, ln_12, ln_13, ln_14, ln_15, ln_16, ln_17, ln_18, ln_19, ln_22, ln_27, ln_29, ln_36, ln_37, ln_38, ln_39, ln_40, ln_41, ln_42, ln_43, ln_44, ln_45, ln_46, ln_47, ln_48, ln_49, ln_50, ln_51, ln_52, ln_53, ln_54, ln_55, ln_56, ln_57, ln_58, ln_59, ln_60, ln_61, ln_62, ln_63, ln_66, hu_s, hu_o, hn_s, hn_o, du_s, du_o, tu_s, tu_o, z1, z2]
  rw [hn_id hX]
theorem kc_26 (i : Nat) (e14 : ∀ k, h 14 (t 14) k = .inl 0) (e15 : ∀ k, h 15 (t 15) k = .inl 0) (e16 : ∀ k, h 16 (t 16) k = .inl 0) (e17 : ∀ k, h 17 (t 17) k = .inl 0) (hX : ∀ k, h 24 i k = (du (du (du (du (fun k => av_dv (tl_ty 4 k)) 1 (.inr (.inr (some (14, t 14))))) 2 (.inr (.inr (some (15, t 15))))) 3 (.inr (.inr (some (16, t 16))))) 4 (.inr (.inr (some (17, t 17))))) k) : av_cal 26 [.inr (.inr (some (24, i)))] (cm N L c s t (hn h 24 i (fun k => av_dv (tl_ty 4 k)))) = some (.inl none, cm N L (c + 1 + 1 + 1 + 1) (s + 61 + 61 + 61 + 80) (tu (tu (tu (tu t 14) 15) 16) 17) h) := by
  show av_run 26 0 [some (.inr (.inr (some (24, i))))] [] _ = _
  have z14 : ∀ D, hn (hn h 24 i D) 14 (t 14) (fun _ => .inl 0) = hn h 24 i D := fun D => hn_i2 (by decide) e14
  have z15 : ∀ D, hn (hn h 24 i D) 15 (t 15) (fun _ => .inl 0) = hn h 24 i D := fun D => hn_i2 (by decide) e15
  have z16 : ∀ D, hn (hn h 24 i D) 16 (t 16) (fun _ => .inl 0) = hn h 24 i D := fun D => hn_i2 (by decide) e16
  have z17 : ∀ D, hn (hn h 24 i D) 17 (t 17) (fun _ => .inl 0) = hn h 24 i D := fun D => hn_i2 (by decide) e17
  simp only [s_26_0, s_26_1, s_26_4, s_26_5, s_26_7, s_26_9, s_26_12, s_26_13, s_26_15, s_26_17, s_26_20, s_26_21, s_26_23, s_26_25, s_26_28, s_26_29, s_26_31, s_26_33, s_26_36, ctc_26, kd_0, kd_1, kd_2, kd_3, kd_4, kd_5, kd_6, kd_7, kd_8, kd_9, kd_10, kd_11, kd_12, kd_13, kd_14, kd_15, kd_16, kd_17, kd_18, kd_19, kd_20, kd_21, kd_22, kd_23, kd_24, kd_25, kd_26, kd_27, kd_28, kd_29, kd_30, kd_31, kd_32, kd_33, kd_34, kd_35, kd_36, kd_37, kd_38, kd_39, kd_40, kd_41, kd_42, kd_43, kd_44, kd_45, kd_46, kd_47, kd_48, kd_49, kd_50, kd_51, kd_52, kd_53, kd_54, kd_55, kd_56, kd_57, kd_58, kd_59, kd_60, kd_61, kd_62, kd_63, kd_64, kd_65, kd_66, v_0, v_1, v_2, v_3, v_4, v_5, v_7_0, v_7_1, v_9, v_10, v_11, v_12, v_13, v_14, v_15, v_16, v_17, v_20_0, v_20_1, v_20_2, v_22, v_23_0, v_23_1, v_23_2, v_23_3, v_24_0, v_26_0, v_26_1, v_28_0, v_28_1, v_28_2, v_28_3, v_28_4, v_28_5, v_28_6, v_29, v_36, v_37, v_38, v_39, v_40, v_41, v_42, v_43, v_44, v_45, v_46, v_47, v_48, v_49, v_50, v_51, v_52, v_53, v_54, v_55, v_56, v_57, v_58, v_59, v_60, v_61, v_62, v_63, v_64_0, v_64_1, v_64_2, v_65_0, v_65_1, v_65_2, v_65_3, v_65_4, v_65_5, v_65_6, v_65_7, v_65_8, v_65_14, v_65_37, v_26_2, v_26_3, v_28_7, v_28_8, v_28_9, v_28_10, v_7_2, v_7_3, v_7_4, v_20_3, v_20_4, v_20_5, v_24_1, v_24_2, v_24_3, v_24_4, v_23_4, v_23_5, v_8_0, v_21_0, v_64_3, v_64_4, v_64_5, v_64_6, v_64_7, v_65_9, v_65_10, v_65_11, v_65_12, v_65_13, v_65_15, v_65_16, v_65_17, v_65_18, v_65_19, v_65_20, v_65_21, v_65_22, v_65_23, v_65_24, v_65_25, v_65_26, v_65_27, v_65_28, v_65_29, v_65_30, v_65_31, v_65_32, v_65_33, v_65_34, v_65_35, v_65_36, v_65_38, v_6, v_18, v_19, v_25, v_27, v_66, n_0, n_25, n_1, n_2, n_3, n_4, n_5, n_6, n_9, n_10, n_11, n_12, n_13, n_14, n_15, n_16, n_17, n_18, n_19, n_22, n_27, n_29, n_66, n_36, n_37, n_38, n_39, n_40, n_41, n_42, n_43, n_44, n_45, n_46, n_47, n_48, n_49, n_50, n_51, n_52, n_53, n_54, n_55, n_56, n_57, n_58, n_59, n_60, n_61, n_62, n_63, mi_0, mi_1, mi_2, mi_3, mi_4, mi_5, mi_7_0, mi_7_1, mi_9, mi_10, mi_11, mi_12, mi_13, mi_14, mi_15, mi_16, mi_17, mi_20_0, mi_20_1, mi_20_2, mi_22, mi_23_0, mi_23_1, mi_23_2, mi_23_3, mi_24_0, mi_26_0, mi_26_1, mi_28_0, mi_28_1, mi_28_2, mi_28_3, mi_28_4, mi_28_5, mi_28_6, mi_29, mi_36, mi_37, mi_38, mi_39, mi_40, mi_41, mi_42, mi_43, mi_44, mi_45, mi_46, mi_47, mi_48, mi_49, mi_50, mi_51, mi_52, mi_53, mi_54, mi_55, mi_56, mi_57, mi_58, mi_59, mi_60, mi_61, mi_62, mi_63, mi_64_0, mi_64_1, mi_64_2, mi_65_0, mi_65_1, mi_65_2, mi_65_3, mi_65_4, mi_65_5, mi_65_6, mi_65_7, mi_65_8, mi_65_14, mi_65_37, mm_out, wt_0, wt_1, wt_2, wt_3, isI_1, isL_1, isZ_1, av_bind_ret, av_bind_thr, Option.toList_some, Option.toList_none, List.cons_append, List.nil_append, ↓reduceIte, Nat.reduceAdd, Nat.reduceLeDiff, Nat.reduceLT, Nat.reduceEqDiff, and_self, true_and, and_true, or_true, true_or, or_false, false_or, eq_self, not_true_eq_false, not_false_eq_true, w_0, w_1, w_2, w_3, w_4, w_5, w_7_0, w_7_1, w_9, w_10, w_11, w_12, w_13, w_14, w_15, w_16, w_17, w_20_0, w_20_1, w_20_2, w_22, w_23_0, w_23_1, w_23_2, w_23_3, w_24_0, w_26_0, w_26_1, w_28_0, w_28_1, w_28_2, w_28_3, w_28_4, w_28_5, w_28_6, w_29, w_36, w_37, w_38, w_39, w_40, w_41, w_42, w_43, w_44, w_45, w_46, w_47, w_48, w_49, w_50, w_51, w_52, w_53, w_54, w_55, w_56, w_57, w_58, w_59, w_60, w_61, w_62, w_63, w_64_0, w_64_1, w_64_2, w_65_0, w_65_1, w_65_2, w_65_3, w_65_4, w_65_5, w_65_6, w_65_7, w_65_8, w_65_14, w_65_37, cx_cnt, cx_val, cx_len, cx_wr, mk_1, mk_2, mk_3, mk_4, mk_5, mk_6, mk_9, mk_10, mk_11, mk_12, mk_13, mk_14, mk_15, mk_16, mk_17, mk_18, mk_19, mk_22, mk_27, mk_29, mk_36, mk_37, mk_38, mk_39, mk_40, mk_41, mk_42, mk_43, mk_44, mk_45, mk_46, mk_47, mk_48, mk_49, mk_50, mk_51, mk_52, mk_53, mk_54, mk_55, mk_56, mk_57, mk_58, mk_59, mk_60, mk_61, mk_62, mk_63, mk_66, mk_7, mk_8, mk_20, mk_21, mk_23, mk_24, mk_26, mk_28, mk_64, mk_65, td_1, td_2, td_3, td_4, td_6, td_10, td_18, td_24, td_40, td_60, td_61, td_70, td_80, td_160, td_480, od_1, od_2, od_3, od_4, od_6, od_10, od_18, od_24, od_40, od_60, od_61, od_70, od_80, od_160, od_480, ln_1, ln_2, ln_3, ln_4, ln_5, ln_6, ln_9, ln_10, ln_11, ln_12, ln_13, ln_14, ln_15, ln_16, ln_17, ln_18, ln_19, ln_22, ln_27, ln_29, ln_36, ln_37, ln_38, ln_39, ln_40, ln_41, ln_42, ln_43, ln_44, ln_45, ln_46, ln_47, ln_48, ln_49, ln_50, ln_51, ln_52, ln_53, ln_54, ln_55, ln_56, ln_57, ln_58, ln_59, ln_60, ln_61, ln_62, ln_63, ln_66, hu_s, hu_o, hn_s, hn_o, du_s, du_o, tu_s, tu_o, z14, z15, z16, z17]
  rw [hn_id hX]
theorem kc_23 (i : Nat) (e11 : ∀ k, h 11 (t 11) k = if k < 4 then .inl (-1) else .inl 0) (e12 : ∀ k, h 12 (t 12) k = .inl 0) (e13 : ∀ k, h 13 (t 13) k = .inl 0) (hX : ∀ k, h 20 i k = (du (du (du (du (du (fun k => av_dv (tl_ty 3 k)) 0 (.inl 0)) 1 (.inl (-1))) 3 (.inr (.inr (some (11, t 11))))) 4 (.inr (.inr (some (12, t 12))))) 5 (.inr (.inr (some (13, t 13))))) k) : av_cal 23 [.inr (.inr (some (20, i)))] (cm N L c s t (hn h 20 i (fun k => av_dv (tl_ty 3 k)))) = some (.inl none, cm N L (c + 1 + 1 + 1) (s + 4 + 6 + 4) (tu (tu (tu t 11) 12) 13) h) := by
  show av_run 23 0 [some (.inr (.inr (some (20, i))))] [] _ = _
  have z12 : ∀ D D', hn (hn (hn h 20 i D) 11 (t 11) D') 12 (t 12) (fun _ => .inl 0) = hn (hn h 20 i D) 11 (t 11) D' := fun D D' => hn_i3 (by decide) (by decide) e12
  have z13 : ∀ D D', hn (hn (hn h 20 i D) 11 (t 11) D') 13 (t 13) (fun _ => .inl 0) = hn (hn h 20 i D) 11 (t 11) D' := fun D D' => hn_i3 (by decide) (by decide) e13
  simp only [s_23_0, s_23_1, s_23_4, s_23_5, s_23_6, s_23_9, s_23_10, s_23_11, s_23_14, s_23_15, s_23_16, s_23_18, s_23_21, s_23_22, s_23_24, s_23_26, s_23_29, s_23_30, s_23_31, s_23_33, s_23_36, s_23_37, s_23_40, s_23_41, s_23_44, ctc_23, kd_0, kd_1, kd_2, kd_3, kd_4, kd_5, kd_6, kd_7, kd_8, kd_9, kd_10, kd_11, kd_12, kd_13, kd_14, kd_15, kd_16, kd_17, kd_18, kd_19, kd_20, kd_21, kd_22, kd_23, kd_24, kd_25, kd_26, kd_27, kd_28, kd_29, kd_30, kd_31, kd_32, kd_33, kd_34, kd_35, kd_36, kd_37, kd_38, kd_39, kd_40, kd_41, kd_42, kd_43, kd_44, kd_45, kd_46, kd_47, kd_48, kd_49, kd_50, kd_51, kd_52, kd_53, kd_54, kd_55, kd_56, kd_57, kd_58, kd_59, kd_60, kd_61, kd_62, kd_63, kd_64, kd_65, kd_66, v_0, v_1, v_2, v_3, v_4, v_5, v_7_0, v_7_1, v_9, v_10, v_11, v_12, v_13, v_14, v_15, v_16, v_17, v_20_0, v_20_1, v_20_2, v_22, v_23_0, v_23_1, v_23_2, v_23_3, v_24_0, v_26_0, v_26_1, v_28_0, v_28_1, v_28_2, v_28_3, v_28_4, v_28_5, v_28_6, v_29, v_36, v_37, v_38, v_39, v_40, v_41, v_42, v_43, v_44, v_45, v_46, v_47, v_48, v_49, v_50, v_51, v_52, v_53, v_54, v_55, v_56, v_57, v_58, v_59, v_60, v_61, v_62, v_63, v_64_0, v_64_1, v_64_2, v_65_0, v_65_1, v_65_2, v_65_3, v_65_4, v_65_5, v_65_6, v_65_7, v_65_8, v_65_14, v_65_37, v_26_2, v_26_3, v_28_7, v_28_8, v_28_9, v_28_10, v_7_2, v_7_3, v_7_4, v_20_3, v_20_4, v_20_5, v_24_1, v_24_2, v_24_3, v_24_4, v_23_4, v_23_5, v_8_0, v_21_0, v_64_3, v_64_4, v_64_5, v_64_6, v_64_7, v_65_9, v_65_10, v_65_11, v_65_12, v_65_13, v_65_15, v_65_16, v_65_17, v_65_18, v_65_19, v_65_20, v_65_21, v_65_22, v_65_23, v_65_24, v_65_25, v_65_26, v_65_27, v_65_28, v_65_29, v_65_30, v_65_31, v_65_32, v_65_33, v_65_34, v_65_35, v_65_36, v_65_38, v_6, v_18, v_19, v_25, v_27, v_66, n_0, n_25, n_1, n_2, n_3, n_4, n_5, n_6, n_9, n_10, n_11, n_12, n_13, n_14, n_15, n_16, n_17, n_18, n_19, n_22, n_27, n_29, n_66, n_36, n_37, n_38, n_39, n_40, n_41, n_42, n_43, n_44, n_45, n_46, n_47, n_48, n_49, n_50, n_51, n_52, n_53, n_54, n_55, n_56, n_57, n_58, n_59, n_60, n_61, n_62, n_63, mi_0, mi_1, mi_2, mi_3, mi_4, mi_5, mi_7_0, mi_7_1, mi_9, mi_10, mi_11, mi_12, mi_13, mi_14, mi_15, mi_16, mi_17, mi_20_0, mi_20_1, mi_20_2, mi_22, mi_23_0, mi_23_1, mi_23_2, mi_23_3, mi_24_0, mi_26_0, mi_26_1, mi_28_0, mi_28_1, mi_28_2, mi_28_3, mi_28_4, mi_28_5, mi_28_6, mi_29, mi_36, mi_37, mi_38, mi_39, mi_40, mi_41, mi_42, mi_43, mi_44, mi_45, mi_46, mi_47, mi_48, mi_49, mi_50, mi_51, mi_52, mi_53, mi_54, mi_55, mi_56, mi_57, mi_58, mi_59, mi_60, mi_61, mi_62, mi_63, mi_64_0, mi_64_1, mi_64_2, mi_65_0, mi_65_1, mi_65_2, mi_65_3, mi_65_4, mi_65_5, mi_65_6, mi_65_7, mi_65_8, mi_65_14, mi_65_37, mm_out, wt_0, wt_1, wt_2, wt_3, isI_1, isL_1, isZ_1, av_bind_ret, av_bind_thr, Option.toList_some, Option.toList_none, List.cons_append, List.nil_append, ↓reduceIte, Nat.reduceAdd, Nat.reduceLeDiff, Nat.reduceLT, Nat.reduceEqDiff, and_self, true_and, and_true, or_true, true_or, or_false, false_or, eq_self, not_true_eq_false, not_false_eq_true, w_0, w_1, w_2, w_3, w_4, w_5, w_7_0, w_7_1, w_9, w_10, w_11, w_12, w_13, w_14, w_15, w_16, w_17, w_20_0, w_20_1, w_20_2, w_22, w_23_0, w_23_1, w_23_2, w_23_3, w_24_0, w_26_0, w_26_1, w_28_0, w_28_1, w_28_2, w_28_3, w_28_4, w_28_5, w_28_6, w_29, w_36, w_37, w_38, w_39, w_40, w_41, w_42, w_43, w_44, w_45, w_46, w_47, w_48, w_49, w_50, w_51, w_52, w_53, w_54, w_55, w_56, w_57, w_58, w_59, w_60, w_61, w_62, w_63, w_64_0, w_64_1, w_64_2, w_65_0, w_65_1, w_65_2, w_65_3, w_65_4, w_65_5, w_65_6, w_65_7, w_65_8, w_65_14, w_65_37, cx_cnt, cx_val, cx_len, cx_wr, mk_1, mk_2, mk_3, mk_4, mk_5, mk_6, mk_9, mk_10, mk_11, mk_12, mk_13, mk_14, mk_15, mk_16, mk_17, mk_18, mk_19, mk_22, mk_27, mk_29, mk_36, mk_37, mk_38, mk_39, mk_40, mk_41, mk_42, mk_43, mk_44, mk_45, mk_46, mk_47, mk_48, mk_49, mk_50, mk_51, mk_52, mk_53, mk_54, mk_55, mk_56, mk_57, mk_58, mk_59, mk_60, mk_61, mk_62, mk_63, mk_66, mk_7, mk_8, mk_20, mk_21, mk_23, mk_24, mk_26, mk_28, mk_64, mk_65, td_1, td_2, td_3, td_4, td_6, td_10, td_18, td_24, td_40, td_60, td_61, td_70, td_80, td_160, td_480, od_1, od_2, od_3, od_4, od_6, od_10, od_18, od_24, od_40, od_60, od_61, od_70, od_80, od_160, od_480, ln_1, ln_2, ln_3, ln_4, ln_5, ln_6, ln_9, ln_10, ln_11, ln_12, ln_13, ln_14, ln_15, ln_16, ln_17, ln_18, ln_19, ln_22, ln_27, ln_29, ln_36, ln_37, ln_38, ln_39, ln_40, ln_41, ln_42, ln_43, ln_44, ln_45, ln_46, ln_47, ln_48, ln_49, ln_50, ln_51, ln_52, ln_53, ln_54, ln_55, ln_56, ln_57, ln_58, ln_59, ln_60, ln_61, ln_62, ln_63, ln_66, hu_s, hu_o, hn_s, hn_o, du_s, du_o, tu_s, tu_o, z12, z13, fl_11]
  rw [hn_i2 (by decide) e11, hn_id hX]
theorem kc_14 (i : Nat) (e22 : ∀ k, h 22 (t 22) k = .inl 0) (e8 : ∀ k, h 8 (t 8) k = (du (fun k => av_dv (tl_ty 6 k)) 0 (.inr (.inr (some (22, t 22))))) k) (e9 : ∀ k, h 9 (t 9) k = .inl 0) (e10 : ∀ k, h 10 (t 10) k = if k < 80 then .inl (-1) else .inl 0) (hX : ∀ k, h 7 i k = (du (du (du (du (fun k => av_dv (tl_ty 2 k)) 1 (.inl 3)) 2 (.inr (.inr (some (8, t 8))))) 3 (.inr (.inr (some (9, t 9))))) 4 (.inr (.inr (some (10, t 10))))) k) : av_cal 14 [.inr (.inr (some (7, i)))] (cm N L c s t (hn h 7 i (fun k => av_dv (tl_ty 2 k)))) = some (.inl none, cm N L (c + 1 + 1 + 1 + 1) (s + 1 + 10 + 4 + 80) (tu (tu (tu (tu t 8) 22) 9) 10) h) := by
  show av_run 14 0 [some (.inr (.inr (some (7, i))))] [] _ = _
  have k30 : ∀ D, av_cal 30 [.inr (.inr (some (8, t 8)))] (cm N L (c + 1) (s + 1) (tu t 8) (hn (hn h 7 i D) 8 (t 8) (fun k => av_dv (tl_ty 6 k)))) = some (.inl none, cm N L (c + 1 + 1) (s + 1 + 10) (tu (tu t 8) 22) (hn h 7 i D)) := fun D => kc_30_8 N L (c + 1) (s + 1) (tu t 8) (hn h 7 i D) (t 8) (fun k => (hn_o _ _ _ _ _ _ _ (by decide)).trans (e22 k)) (fun k => (hn_o _ _ _ _ _ _ _ (by decide)).trans (e8 k))
  have z9 : ∀ D, hn (hn h 7 i D) 9 (t 9) (fun _ => .inl 0) = hn h 7 i D := fun D => hn_i2 (by decide) e9
  simp only [s_14_0, s_14_1, s_14_4, s_14_5, s_14_6, s_14_9, s_14_10, s_14_13, s_14_14, s_14_17, s_14_20, s_14_21, s_14_22, s_14_24, s_14_27, s_14_28, s_14_30, s_14_32, s_14_35, s_14_36, s_14_39, s_14_40, s_14_43, ctc_14, kd_0, kd_1, kd_2, kd_3, kd_4, kd_5, kd_6, kd_7, kd_8, kd_9, kd_10, kd_11, kd_12, kd_13, kd_14, kd_15, kd_16, kd_17, kd_18, kd_19, kd_20, kd_21, kd_22, kd_23, kd_24, kd_25, kd_26, kd_27, kd_28, kd_29, kd_30, kd_31, kd_32, kd_33, kd_34, kd_35, kd_36, kd_37, kd_38, kd_39, kd_40, kd_41, kd_42, kd_43, kd_44, kd_45, kd_46, kd_47, kd_48, kd_49, kd_50, kd_51, kd_52, kd_53, kd_54, kd_55, kd_56, kd_57, kd_58, kd_59, kd_60, kd_61, kd_62, kd_63, kd_64, kd_65, kd_66, v_0, v_1, v_2, v_3, v_4, v_5, v_7_0, v_7_1, v_9, v_10, v_11, v_12, v_13, v_14, v_15, v_16, v_17, v_20_0, v_20_1, v_20_2, v_22, v_23_0, v_23_1, v_23_2, v_23_3, v_24_0, v_26_0, v_26_1, v_28_0, v_28_1, v_28_2, v_28_3, v_28_4, v_28_5, v_28_6, v_29, v_36, v_37, v_38, v_39, v_40, v_41, v_42, v_43, v_44, v_45, v_46, v_47, v_48, v_49, v_50, v_51, v_52, v_53, v_54, v_55, v_56, v_57, v_58, v_59, v_60, v_61, v_62, v_63, v_64_0, v_64_1, v_64_2, v_65_0, v_65_1, v_65_2, v_65_3, v_65_4, v_65_5, v_65_6, v_65_7, v_65_8, v_65_14, v_65_37, v_26_2, v_26_3, v_28_7, v_28_8, v_28_9, v_28_10, v_7_2, v_7_3, v_7_4, v_20_3, v_20_4, v_20_5, v_24_1, v_24_2, v_24_3, v_24_4, v_23_4, v_23_5, v_8_0, v_21_0, v_64_3, v_64_4, v_64_5, v_64_6, v_64_7, v_65_9, v_65_10, v_65_11, v_65_12, v_65_13, v_65_15, v_65_16, v_65_17, v_65_18, v_65_19, v_65_20, v_65_21, v_65_22, v_65_23, v_65_24, v_65_25, v_65_26, v_65_27, v_65_28, v_65_29, v_65_30, v_65_31, v_65_32, v_65_33, v_65_34, v_65_35, v_65_36, v_65_38, v_6, v_18, v_19, v_25, v_27, v_66, n_0, n_25, n_1, n_2, n_3, n_4, n_5, n_6, n_9, n_10, n_11, n_12, n_13, n_14, n_15, n_16, n_17, n_18, n_19, n_22, n_27, n_29, n_66, n_36, n_37, n_38, n_39, n_40, n_41, n_42, n_43, n_44, n_45, n_46, n_47, n_48, n_49, n_50, n_51, n_52, n_53, n_54, n_55, n_56, n_57, n_58, n_59, n_60, n_61, n_62, n_63, mi_0, mi_1, mi_2, mi_3, mi_4, mi_5, mi_7_0, mi_7_1, mi_9, mi_10, mi_11, mi_12, mi_13, mi_14, mi_15, mi_16, mi_17, mi_20_0, mi_20_1, mi_20_2, mi_22, mi_23_0, mi_23_1, mi_23_2, mi_23_3, mi_24_0, mi_26_0, mi_26_1, mi_28_0, mi_28_1, mi_28_2, mi_28_3, mi_28_4, mi_28_5, mi_28_6, mi_29, mi_36, mi_37, mi_38, mi_39, mi_40, mi_41, mi_42, mi_43, mi_44, mi_45, mi_46, mi_47, mi_48, mi_49, mi_50, mi_51, mi_52, mi_53, mi_54, mi_55, mi_56, mi_57, mi_58, mi_59, mi_60, mi_61, mi_62, mi_63, mi_64_0, mi_64_1, mi_64_2, mi_65_0, mi_65_1, mi_65_2, mi_65_3, mi_65_4, mi_65_5, mi_65_6, mi_65_7, mi_65_8, mi_65_14, mi_65_37, mm_out, wt_0, wt_1, wt_2, wt_3, isI_1, isL_1, isZ_1, av_bind_ret, av_bind_thr, Option.toList_some, Option.toList_none, List.cons_append, List.nil_append, ↓reduceIte, Nat.reduceAdd, Nat.reduceLeDiff, Nat.reduceLT, Nat.reduceEqDiff, and_self, true_and, and_true, or_true, true_or, or_false, false_or, eq_self, not_true_eq_false, not_false_eq_true, w_0, w_1, w_2, w_3, w_4, w_5, w_7_0, w_7_1, w_9, w_10, w_11, w_12, w_13, w_14, w_15, w_16, w_17, w_20_0, w_20_1, w_20_2, w_22, w_23_0, w_23_1, w_23_2, w_23_3, w_24_0, w_26_0, w_26_1, w_28_0, w_28_1, w_28_2, w_28_3, w_28_4, w_28_5, w_28_6, w_29, w_36, w_37, w_38, w_39, w_40, w_41, w_42, w_43, w_44, w_45, w_46, w_47, w_48, w_49, w_50, w_51, w_52, w_53, w_54, w_55, w_56, w_57, w_58, w_59, w_60, w_61, w_62, w_63, w_64_0, w_64_1, w_64_2, w_65_0, w_65_1, w_65_2, w_65_3, w_65_4, w_65_5, w_65_6, w_65_7, w_65_8, w_65_14, w_65_37, cx_cnt, cx_val, cx_len, cx_wr, mk_1, mk_2, mk_3, mk_4, mk_5, mk_6, mk_9, mk_10, mk_11, mk_12, mk_13, mk_14, mk_15, mk_16, mk_17, mk_18, mk_19, mk_22, mk_27, mk_29, mk_36, mk_37, mk_38, mk_39, mk_40, mk_41, mk_42, mk_43, mk_44, mk_45, mk_46, mk_47, mk_48, mk_49, mk_50, mk_51, mk_52, mk_53, mk_54, mk_55, mk_56, mk_57, mk_58, mk_59, mk_60, mk_61, mk_62, mk_63, mk_66, mk_7, mk_8, mk_20, mk_21, mk_23, mk_24, mk_26, mk_28, mk_64, mk_65, td_1, td_2, td_3, td_4, td_6, td_10, td_18, td_24, td_40, td_60, td_61, td_70, td_80, td_160, td_480, od_1, od_2, od_3, od_4, od_6, od_10, od_18, od_24, od_40, od_60, od_61, od_70, od_80, od_160, od_480, ln_1, ln_2, ln_3, ln_4, ln_5, ln_6, ln_9, ln_10, ln_11, ln_12, ln_13, ln_14, ln_15, ln_16, ln_17, ln_18, ln_19, ln_22, ln_27, ln_29, ln_36, ln_37, ln_38, ln_39, ln_40, ln_41, ln_42, ln_43, ln_44, ln_45, ln_46, ln_47, ln_48, ln_49, ln_50, ln_51, ln_52, ln_53, ln_54, ln_55, ln_56, ln_57, ln_58, ln_59, ln_60, ln_61, ln_62, ln_63, ln_66, hu_s, hu_o, hn_s, hn_o, du_s, du_o, tu_s, tu_o, k30, z9, fl_10]
  rw [hn_i2 (by decide) e10, hn_id hX]
end M30
