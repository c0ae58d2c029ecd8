/-! the step of the abstract machine -/
def tl_ilen : Instr → Nat
  | .bipush _ | .iload _ | .aload _ | .istore _ | .astore _ | .newarray _ | .ldc _ => 2
  | .sipush _ | .ldc_w _ | .iinc _ _ | .ifCond _ _ | .if_icmp _ _ | .goto _ | .getfield _ | .putfield _ | .invokevirtual _ | .invokespecial _ | .invokestatic _ | .new _ | .anewarray _ => 3
  | _ => 1
def tl_isw : Instr → Bool
  | .tableswitch _ _ _ _ => true
  | _ => false
def tl_wb : Cond → ByteArray
  | .code _ b _ _ => b
  | .codeWith _ b _ _ _ => b
  | _ => ⟨#[]⟩
def tl_byt (y : Nat) : ByteArray := if y = 169 then code else tl_wb ((tables_1[tl_cods.getD y 0]?).getD .tt)
def tl_ins (y pc : Nat) : Option Instr := match decode (tl_byt y) pc with
  | .ok q => if (tl_isw q.1 || q.2 == tl_ilen q.1) = true then some q.1 else none
  | _ => none
def tl_siteq (y pc : Nat) : Nat := ((tl_sites.find? (fun q => q.1 == y && q.2.1 == pc)).map (fun q => q.2.2)).getD 0
def tl_fldq (o idx : Nat) : Option (Nat × Nat) := (tl_flds.find? (fun q => q.1 == o && q.2.1 == idx)).map (fun q => (q.2.2.1, q.2.2.2.1))
def tl_invq (o idx : Nat) : Option (Nat × Nat) := (tl_invs.find? (fun q => q.1 == o && q.2.1 == idx)).map (fun q => (q.2.2.1, q.2.2.2.1))
def tl_newq (o idx : Nat) : Option Nat := (tl_news.find? (fun q => q.1 == o && q.2.1 == idx)).map (fun q => q.2.2.1)
def tl_cstq (o idx : Nat) : Option Int32 := (tl_csts.find? (fun q => q.1 == o && q.2.1 == idx)).map (fun q => q.2.2.1)
def tl_exnq (y pc : Nat) : Bool := (tl_exns.find? (fun q => q.1 == y && q.2.1 == pc)).isSome
def tl_own (y : Nat) : Nat := tl_cls.getD y 0
def tl_fr (y : Nat) : Nat := tl_frs.getD y 0
def tl_lo (y : Nat) : Nat := tl_los.getD y 0
def tl_max (y : Nat) : Nat := tl_maxs.getD y 0
def tl_hh (y : Nat) : List (Nat × Nat × Nat × Nat) := tl_hhs.getD y []
def tl_ret (y : Nat) : Option FieldType := tl_rets.getD y none
def tl_name (y : Nat) : MethodName := tl_names.getD y ⟨"", "", ""⟩
def tl_stq (z : Nat) : Nat := (tl_sti.getD z (0, 0)).1
def av_kd (f : Nat) : Nat := tl_kds.getD f 99
def av_cnt (μ : av_M) (f : Nat) : Nat := μ.2.1 f
def av_len (μ : av_M) (f i : Nat) : Nat := μ.2.2.1 f i
def av_val (μ : av_M) (f i k : Nat) : av_V := μ.2.2.2 f i k
def av_wr (μ : av_M) (f i k : Nat) (v : av_V) : av_M := (μ.1, μ.2.1, μ.2.2.1, fun f' i' k' => if f' = f ∧ i' = i ∧ k' = k then v else μ.2.2.2 f' i' k')
def av_mk (μ : av_M) (f n s : Nat) (d : Nat → av_V) : av_M :=
  ((μ.1.1 + 1, μ.1.2 + s), (fun f' => if f' = f then μ.2.1 f + 1 else μ.2.1 f'), (fun f' i' => if f' = f ∧ i' = μ.2.1 f then n else μ.2.2.1 f' i'), (fun f' i' k' => if f' = f ∧ i' = μ.2.1 f then d k' else μ.2.2.2 f' i' k'))
def av_tgt (pc : Nat) (off : Int) : Option Nat := if 0 ≤ (pc : Int) + off then some ((pc : Int) + off).toNat else none
abbrev av_nx (y pc : Nat) (ls : List (Option av_V)) (st : List av_V) (μ : av_M) : av_A := .inr (.inl (y, pc, ls, st, μ))
def av_br (y pc : Nat) (off : Int) (c : Prop) [Decidable c] (ls : List (Option av_V)) (st : List av_V) (μ : av_M) : av_A := match av_tgt pc off with
  | none => .inl none
  | some t => if c then av_nx y t ls st μ else av_nx y (pc + 3) ls st μ
def av_out (j : Int32) (n : Nat) : Prop := j < 0 ∨ n ≤ j.toNatClampNeg
def av_outD (j : Int32) (n : Nat) : Bool := decide (j < 0) || decide (n ≤ j.toNatClampNeg)
def av_wt : List av_V → Nat
  | [] => 0
  | .inr (.inl _) :: r => 2 + av_wt r
  | _ :: r => 1 + av_wt r
def av_fit : FieldType → av_V → Bool
  | .int, .inl _ => true
  | .boolean, .inl x => x == 0 || x == 1
  | .object _, .inr (.inr _) => true
  | .array _, .inr (.inr _) => true
  | _, _ => false
def av_dv : FieldType → av_V
  | .int => .inl 0
  | .boolean => .inl 0
  | .long => .inr (.inl 0)
  | _ => .inr (.inr none)
def av_hdl : List (Nat × Nat × Nat × Nat) → Nat → Nat → Nat → Option Nat
  | [], _, _, _ => none
  | h :: t, o, pc, kd => if h.1 ≤ pc ∧ pc < h.2.1 then (if tl_newq o h.2.2.2 = some kd then some h.2.2.1 else av_hdl t o pc kd) else av_hdl t o pc kd
def av_c1 : av_V → Bool
  | .inr (.inl _) => false
  | _ => true
def av_call (y pc : Nat) (ls : List (Option av_V)) (rest : List av_V) (μ : av_M) (z : Nat) (as : List av_V) : av_A :=
  if tl_fr z + 1 ≤ tl_fr y ∧ 8 + (tl_max z + 11) + tl_lo z ≤ tl_lo y ∧ av_wt rest ≤ 8 ∧ as.length ≤ tl_max z ∧ as.all av_c1 = true then
    .inr (.inr ((z, 0, as.map some ++ List.replicate (tl_max z - as.length) none, [], μ), fun r => match r.1 with
      | .inl v => .inr (y, pc + 3, ls, v.toList ++ rest, r.2)
      | .inr e => if tl_hh y = [] then .inl (some r) else match av_hdl (tl_hh y) (tl_own y) pc (av_kd e.1) with
        | none => .inl none
        | some h => .inr (y, h, ls, [.inr (.inr (some e))], r.2)))
  else .inl none
def av_fin (ci k : Nat) : Bool := match tl_cl[ci]? with
  | some q => (q.2.1 k).2.2.2
  | none => true
def av_isInit (y : Nat) : Bool := (tl_name y).name == "<init>"
def av_ldc (y pc n idx : Nat) (ls : List (Option av_V)) (st : List av_V) (μ : av_M) : av_A := match tl_cstq (tl_own y) idx with
  | some v => av_nx y (pc + n) ls (.inl v :: st) μ
  | none => .inl none
def av_ldI (y pc n k : Nat) (ls : List (Option av_V)) (st : List av_V) (μ : av_M) : av_A := match ls[k]? with
  | some (some (.inl v)) => av_nx y (pc + n) ls (.inl v :: st) μ
  | _ => .inl none
def av_ldA (y pc n k : Nat) (ls : List (Option av_V)) (st : List av_V) (μ : av_M) : av_A := match ls[k]? with
  | some (some (.inr (.inr (some q)))) => av_nx y (pc + n) ls (.inr (.inr (some q)) :: st) μ
  | _ => .inl none
def av_stI (y pc n k : Nat) (ls : List (Option av_V)) (st : List av_V) (μ : av_M) : av_A := match st with
  | .inl v :: r => if k < ls.length then av_nx y (pc + n) (ls.set k (some (.inl v))) r μ else .inl none
  | _ => .inl none
def av_stA (y pc n k : Nat) (ls : List (Option av_V)) (st : List av_V) (μ : av_M) : av_A := match st with
  | .inr (.inr (some q)) :: r => if k < ls.length then av_nx y (pc + n) (ls.set k (some (.inr (.inr (some q))))) r μ else .inl none
  | _ => .inl none
def av_ii (f : Int32 → Int32 → Int32) (y pc : Nat) (ls : List (Option av_V)) (st : List av_V) (μ : av_M) : av_A := match st with
  | .inl b :: .inl a :: r => av_nx y (pc + 1) ls (.inl (f a b) :: r) μ
  | _ => .inl none
def av_iz (f : Int32 → Int32 → Int32) (y pc : Nat) (ls : List (Option av_V)) (st : List av_V) (μ : av_M) : av_A := match st with
  | .inl b :: .inl a :: r => if b = 0 then .inl none else av_nx y (pc + 1) ls (.inl (f a b) :: r) μ
  | _ => .inl none
def av_if1 (cd : ClassFile.Cond) (off : Int) (y pc : Nat) (ls : List (Option av_V)) (st : List av_V) (μ : av_M) : av_A := match st with
  | .inl x :: r => match cd with
    | .eq => av_br y pc off (x = 0) ls r μ
    | .ne => av_br y pc off (¬ x = 0) ls r μ
    | .lt => av_br y pc off (x < 0) ls r μ
    | .ge => av_br y pc off (0 ≤ x) ls r μ
    | .gt => av_br y pc off (0 < x) ls r μ
    | .le => av_br y pc off (x ≤ 0) ls r μ
  | _ => .inl none
def av_if2 (cd : ClassFile.Cond) (off : Int) (y pc : Nat) (ls : List (Option av_V)) (st : List av_V) (μ : av_M) : av_A := match st with
  | .inl b :: .inl a :: r => match cd with
    | .eq => av_br y pc off (a = b) ls r μ
    | .ne => av_br y pc off (¬ a = b) ls r μ
    | .lt => av_br y pc off (a < b) ls r μ
    | .ge => av_br y pc off (b ≤ a) ls r μ
    | .gt => av_br y pc off (b < a) ls r μ
    | .le => av_br y pc off (a ≤ b) ls r μ
  | _ => .inl none
def av_ald (kd : Nat) (y pc : Nat) (ls : List (Option av_V)) (st : List av_V) (μ : av_M) : av_A := match st with
  | .inl j :: .inr (.inr (some q)) :: r => if av_kd q.1 = kd ∧ av_outD j (av_len μ q.1 q.2) = false then av_nx y (pc + 1) ls (av_val μ q.1 q.2 j.toNatClampNeg :: r) μ else .inl none
  | _ => .inl none
def av_aldi (y pc : Nat) (ls : List (Option av_V)) (st : List av_V) (μ : av_M) : av_A := match st with
  | .inl j :: .inr (.inr (some q)) :: r => if (av_kd q.1 = 20 ∨ av_kd q.1 = 19) ∧ av_outD j (av_len μ q.1 q.2) = false then av_nx y (pc + 1) ls (av_val μ q.1 q.2 j.toNatClampNeg :: r) μ else .inl none
  | _ => .inl none
def av_alda (y pc : Nat) (ls : List (Option av_V)) (st : List av_V) (μ : av_M) : av_A := match st with
  | .inl j :: .inr (.inr (some q)) :: r => if 30 ≤ av_kd q.1 ∧ av_kd q.1 < 39 ∧ av_outD j (av_len μ q.1 q.2) = false then av_nx y (pc + 1) ls (av_val μ q.1 q.2 j.toNatClampNeg :: r) μ else .inl none
  | _ => .inl none
def av_ast (kd : Nat) (ok : av_V → Bool) (y pc : Nat) (ls : List (Option av_V)) (st : List av_V) (μ : av_M) : av_A := match st with
  | v :: .inl j :: .inr (.inr (some q)) :: r => if av_kd q.1 = kd ∧ av_outD j (av_len μ q.1 q.2) = false ∧ ok v = true then av_nx y (pc + 1) ls r (av_wr μ q.1 q.2 j.toNatClampNeg v) else .inl none
  | _ => .inl none
def av_isI : av_V → Bool
  | .inl _ => true
  | _ => false
def av_isZ : av_V → Bool
  | .inl x => x == 0 || x == 1
  | _ => false
def av_isL : av_V → Bool
  | .inr (.inl _) => true
  | _ => false
def av_asta (y pc : Nat) (ls : List (Option av_V)) (st : List av_V) (μ : av_M) : av_A := match st with
  | .inr (.inr (some w)) :: .inl j :: .inr (.inr (some q)) :: r => if av_kd q.1 = 30 + av_kd w.1 ∧ av_kd w.1 < 9 ∧ av_outD j (av_len μ q.1 q.2) = false then av_nx y (pc + 1) ls r (av_wr μ q.1 q.2 j.toNatClampNeg (.inr (.inr (some w)))) else .inl none
  | _ => .inl none
def av_get (idx y pc : Nat) (ls : List (Option av_V)) (st : List av_V) (μ : av_M) : av_A := match st, tl_fldq (tl_own y) idx with
  | .inr (.inr (some q)) :: r, some g => if av_kd q.1 = g.1 ∧ g.1 < 9 ∧ g.2 < tl_NF.getD g.1 0 then av_nx y (pc + 3) ls (av_val μ q.1 q.2 g.2 :: r) μ else .inl none
  | _, _ => .inl none
def av_put (idx y pc : Nat) (ls : List (Option av_V)) (st : List av_V) (μ : av_M) : av_A := match st, tl_fldq (tl_own y) idx with
  | v :: .inr (.inr (some q)) :: r, some g => if av_kd q.1 = g.1 ∧ g.1 < 9 ∧ g.2 < tl_NF.getD g.1 0 ∧ av_fit (tl_ty g.1 g.2) v = true ∧ (av_fin g.1 g.2 = false ∨ (av_isInit y = true ∧ tl_own y = g.1)) then av_nx y (pc + 3) ls r (av_wr μ q.1 q.2 g.2 v) else .inl none
  | _, _ => .inl none
def av_newa (kd : Nat) (d : av_V) (y pc : Nat) (ls : List (Option av_V)) (st : List av_V) (μ : av_M) : av_A := match st with
  | .inl n :: r => if av_outD n 1000 = false ∧ av_kd (tl_siteq y pc) = kd then av_nx y (pc + 2) ls (.inr (.inr (some (tl_siteq y pc, av_cnt μ (tl_siteq y pc)))) :: r) (av_mk μ (tl_siteq y pc) n.toNatClampNeg n.toNatClampNeg (fun _ => d)) else .inl none
  | _ => .inl none
def av_newq (idx y pc : Nat) (ls : List (Option av_V)) (st : List av_V) (μ : av_M) : av_A := match st, tl_newq (tl_own y) idx with
  | .inl n :: r, some ci => if av_outD n 1000 = false ∧ av_kd (tl_siteq y pc) = 30 + ci ∧ ci < 9 then av_nx y (pc + 3) ls (.inr (.inr (some (tl_siteq y pc, av_cnt μ (tl_siteq y pc)))) :: r) (av_mk μ (tl_siteq y pc) n.toNatClampNeg n.toNatClampNeg (fun _ => .inr (.inr none))) else .inl none
  | _, _ => .inl none
def av_new (idx y pc : Nat) (ls : List (Option av_V)) (st : List av_V) (μ : av_M) : av_A := match tl_newq (tl_own y) idx with
  | some ci => if ci < 9 then (if av_kd (tl_siteq y pc) = ci then av_nx y (pc + 3) ls (.inr (.inr (some (tl_siteq y pc, av_cnt μ (tl_siteq y pc)))) :: st) (av_mk μ (tl_siteq y pc) 0 (tl_NF.getD ci 0) (fun k => av_dv (tl_ty ci k))) else .inl none)
    else if tl_exnq y pc = true ∧ av_kd (tl_siteq y pc) = ci ∧ tl_hh y = [] ∧ st = [] then .inl (some (.inr (tl_siteq y pc, av_cnt μ (tl_siteq y pc)), av_mk μ (tl_siteq y pc) 0 6 (fun _ => .inr (.inr none)))) else .inl none
  | none => .inl none
def av_invV (idx y pc : Nat) (ls : List (Option av_V)) (st : List av_V) (μ : av_M) : av_A := match tl_invq (tl_own y) idx with
  | some g => match (st.take (g.2 + 1)).reverse with
    | .inr (.inr (some q)) :: as => if av_kd q.1 = tl_own g.1 ∧ as.length = g.2 ∧ g.1 < 169 ∧ tl_own g.1 < 9 ∧ tl_stq g.1 = 0 ∧ av_isInit g.1 = false then av_call y pc ls (st.drop (g.2 + 1)) μ g.1 (.inr (.inr (some q)) :: as) else .inl none
    | _ => .inl none
  | none => .inl none
def av_invI (idx y pc : Nat) (ls : List (Option av_V)) (st : List av_V) (μ : av_M) : av_A := match tl_invq (tl_own y) idx with
  | some g => if g.1 = 1000 then (match st with
      | .inr (.inr (some _)) :: r => if av_wt r ≤ 8 ∧ 1 ≤ tl_fr y ∧ 20 ≤ tl_lo y then av_nx y (pc + 3) ls r μ else .inl none
      | _ => .inl none)
    else match (st.take (g.2 + 1)).reverse with
    | .inr (.inr (some q)) :: as => if av_kd q.1 = tl_own g.1 ∧ as.length = g.2 ∧ g.1 < 169 ∧ tl_own g.1 < 9 ∧ tl_stq g.1 = 0 ∧ av_isInit g.1 = true ∧ tl_ret g.1 = none ∧ tl_hh g.1 = [] then av_call y pc ls (st.drop (g.2 + 1)) μ g.1 (.inr (.inr (some q)) :: as) else .inl none
    | _ => .inl none
  | none => .inl none
def av_invS (idx y pc : Nat) (ls : List (Option av_V)) (st : List av_V) (μ : av_M) : av_A := match tl_invq (tl_own y) idx with
  | some g => if 1000 ≤ g.1 then (match st with
      | .inl b :: .inl a :: r => if av_wt r ≤ 8 ∧ 1 ≤ tl_fr y ∧ 21 ≤ tl_lo y then (if g.1 = 1001 then av_nx y (pc + 3) ls (.inl (if a < b then b else a) :: r) μ else if g.1 = 1002 then av_nx y (pc + 3) ls (.inl (if b < a then b else a) :: r) μ else .inl none) else .inl none
      | _ => .inl none)
    else if (st.take g.2).length = g.2 ∧ g.1 < 169 ∧ tl_stq g.1 = 1 then av_call y pc ls (st.drop g.2) μ g.1 (st.take g.2).reverse else .inl none
  | none => .inl none
def av_x (i : Instr) (y pc : Nat) (ls : List (Option av_V)) (st : List av_V) (μ : av_M) : av_A := match i with
  | .iconst n => av_nx y (pc + 1) ls (.inl (Int32.ofInt n) :: st) μ
  | .bipush n => av_nx y (pc + 2) ls (.inl ((Int8.ofInt n).toInt32) :: st) μ
  | .sipush n => av_nx y (pc + 3) ls (.inl ((Int16.ofInt n).toInt32) :: st) μ
  | .ldc_w idx => av_ldc y pc 3 idx ls st μ
  | .iload k => av_ldI y pc 2 k ls st μ
  | .iload_n k => av_ldI y pc 1 k.val ls st μ
  | .aload k => av_ldA y pc 2 k ls st μ
  | .aload_n k => av_ldA y pc 1 k.val ls st μ
  | .istore k => av_stI y pc 2 k ls st μ
  | .istore_n k => av_stI y pc 1 k.val ls st μ
  | .astore k => av_stA y pc 2 k ls st μ
  | .astore_n k => av_stA y pc 1 k.val ls st μ
  | .iinc k n => match ls[k]? with
    | some (some (.inl v)) => av_nx y (pc + 3) (ls.set k (some (.inl (v + Int32.ofInt n)))) st μ
    | _ => .inl none
  | .iadd => av_ii (fun a b => a + b) y pc ls st μ
  | .isub => av_ii (fun a b => a - b) y pc ls st μ
  | .imul => av_ii (fun a b => a * b) y pc ls st μ
  | .iand => av_ii (fun a b => a &&& b) y pc ls st μ
  | .ior => av_ii (fun a b => a ||| b) y pc ls st μ
  | .ixor => av_ii (fun a b => a ^^^ b) y pc ls st μ
  | .ishl => av_ii (fun a b => a <<< (b &&& 31)) y pc ls st μ
  | .ishr => av_ii (fun a b => a >>> (b &&& 31)) y pc ls st μ
  | .iushr => av_ii (fun a b => (a.toUInt32 >>> (b.toUInt32 &&& Int32.toUInt32 31)).toInt32) y pc ls st μ
  | .idiv => av_iz (fun a b => a / b) y pc ls st μ
  | .irem => av_iz (fun a b => a - a / b * b) y pc ls st μ
  | .i2l => match st with
    | .inl a :: r => av_nx y (pc + 1) ls (.inr (.inl a.toInt64) :: r) μ
    | _ => .inl none
  | .lcmp => match st with
    | .inr (.inl b) :: .inr (.inl a) :: r => av_nx y (pc + 1) ls (.inl (lg_cmp a b) :: r) μ
    | _ => .inl none
  | .dup => match st with
    | .inl v :: r => av_nx y (pc + 1) ls (.inl v :: .inl v :: r) μ
    | .inr (.inr v) :: r => av_nx y (pc + 1) ls (.inr (.inr v) :: .inr (.inr v) :: r) μ
    | _ => .inl none
  | .dup2 => match st with
    | .inl v :: .inr (.inr w) :: r => av_nx y (pc + 1) ls (.inl v :: .inr (.inr w) :: .inl v :: .inr (.inr w) :: r) μ
    | _ => .inl none
  | .pop => match st with
    | .inl _ :: r => av_nx y (pc + 1) ls r μ
    | .inr (.inr _) :: r => av_nx y (pc + 1) ls r μ
    | _ => .inl none
  | .ifCond cd off => av_if1 cd off y pc ls st μ
  | .if_icmp cd off => av_if2 cd off y pc ls st μ
  | .goto off => match av_tgt pc off with
    | some t => av_nx y t ls st μ
    | none => .inl none
  | .tableswitch d lo hi offs => match st with
    | .inl x :: r => if x.toInt < lo ∨ hi < x.toInt then (match av_tgt pc d with
        | some t => av_nx y t ls r μ
        | none => .inl none) else (match offs[(x.toInt - lo).toNat]? with
        | some o => (match av_tgt pc o with
          | some t => av_nx y t ls r μ
          | none => .inl none)
        | none => .inl none)
    | _ => .inl none
  | .iaload => av_aldi y pc ls st μ
  | .laload => av_ald 22 y pc ls st μ
  | .baload => av_ald 21 y pc ls st μ
  | .aaload => av_alda y pc ls st μ
  | .iastore => av_ast 20 av_isI y pc ls st μ
  | .bastore => av_ast 21 av_isZ y pc ls st μ
  | .lastore => av_ast 22 av_isL y pc ls st μ
  | .aastore => av_asta y pc ls st μ
  | .arraylength => match st with
    | .inr (.inr (some q)) :: r => if 19 ≤ av_kd q.1 ∧ av_kd q.1 < 39 then av_nx y (pc + 1) ls (.inl (nI (av_len μ q.1 q.2)) :: r) μ else .inl none
    | _ => .inl none
  | .getfield idx => av_get idx y pc ls st μ
  | .putfield idx => av_put idx y pc ls st μ
  | .newarray .int => av_newa 20 (.inl 0) y pc ls st μ
  | .newarray .boolean => av_newa 21 (.inl 0) y pc ls st μ
  | .newarray .long => av_newa 22 (.inr (.inl 0)) y pc ls st μ
  | .anewarray idx => av_newq idx y pc ls st μ
  | .new idx => av_new idx y pc ls st μ
  | .invokevirtual idx => av_invV idx y pc ls st μ
  | .invokespecial idx => av_invI idx y pc ls st μ
  | .invokestatic idx => av_invS idx y pc ls st μ
  | .ireturn => match st with
    | [.inl v] => if tl_ret y = some .int ∨ (tl_ret y = some .boolean ∧ (v == 0 || v == 1) = true) then .inl (some (.inl (some (.inl v)), μ)) else .inl none
    | _ => .inl none
  | .areturn => match st, tl_ret y with
    | [.inr (.inr (some q))], some (.object _) => .inl (some (.inl (some (.inr (.inr (some q)))), μ))
    | _, _ => .inl none
  | .return_ => if st = [] ∧ tl_ret y = none then .inl (some (.inl none, μ)) else .inl none
  | _ => .inl none
def av_act : av_C → av_A := fun c => match tl_ins c.1 c.2.1 with
  | some i => av_x i c.1 c.2.1 c.2.2.1 c.2.2.2.1 c.2.2.2.2
  | none => .inl none
noncomputable def av_run (y pc : Nat) (ls : List (Option av_V)) (st : List av_V) (μ : av_M) : Option av_R := av_den av_act (y, pc, ls, st, μ)
noncomputable def av_cal (y : Nat) (as : List av_V) (μ : av_M) : Option av_R := av_run y 0 (as.map some ++ List.replicate (tl_max y - as.length) none) [] μ
theorem av_run_eq {y pc : Nat} {i : Instr} (h : tl_ins y pc = some i) (ls : List (Option av_V)) (st : List av_V) (μ : av_M) : av_run y pc ls st μ = av_D av_act (av_x i y pc ls st μ) := by
  unfold av_run
  rw [av_den_eq]
  show av_D av_act (match tl_ins y pc with
    | some i => av_x i y pc ls st μ
    | none => .inl none) = _
  rw [h]
