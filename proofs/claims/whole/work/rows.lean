section
-- ===== PART A: goes FIRST, ahead of the names: the tables' words, and 'selects' of the private methods out of them =====
/-- a private method of a class that the tables say can be made, by its rows of tables_1 -/
def lw_okq (q : MethodName × Nat) : Prop := (q.1.cls ≠ "java/lang/invoke/MethodHandle" ∧ q.1.cls ≠ "java/lang/invoke/VarHandle") ∧ Cond.instantiable q.1.cls q.2 ∈ tables_1 ∧ Cond.privateMethod q.1 ∈ tables_1 ∧ Cond.instanceMethod q.1 ∈ tables_1
theorem lw_p0 : lw_okq (⟨"PaneLight", "isSheet", "(I)Z"⟩, 9) := ⟨⟨by decide +kernel, by decide +kernel⟩, List.mem_of_getElem? (i := 17) (by decide +kernel), List.mem_of_getElem? (i := 366) (by decide +kernel), List.mem_of_getElem? (i := 367) (by decide +kernel)⟩
theorem lw_p1 : lw_okq (⟨"PaneLight", "clearOfHundred", "(III)I"⟩, 9) := ⟨⟨by decide +kernel, by decide +kernel⟩, List.mem_of_getElem? (i := 17) (by decide +kernel), List.mem_of_getElem? (i := 579) (by decide +kernel), List.mem_of_getElem? (i := 580) (by decide +kernel)⟩
theorem lw_p2 : lw_okq (⟨"PaneLight", "asPane", "(I)I"⟩, 9) := ⟨⟨by decide +kernel, by decide +kernel⟩, List.mem_of_getElem? (i := 17) (by decide +kernel), List.mem_of_getElem? (i := 653) (by decide +kernel), List.mem_of_getElem? (i := 654) (by decide +kernel)⟩
theorem lw_p3 : lw_okq (⟨"PaneLight", "asSaint", "(I)I"⟩, 9) := ⟨⟨by decide +kernel, by decide +kernel⟩, List.mem_of_getElem? (i := 17) (by decide +kernel), List.mem_of_getElem? (i := 657) (by decide +kernel), List.mem_of_getElem? (i := 658) (by decide +kernel)⟩
theorem lw_p4 : lw_okq (⟨"PaneLight", "asDevil", "(I)I"⟩, 9) := ⟨⟨by decide +kernel, by decide +kernel⟩, List.mem_of_getElem? (i := 17) (by decide +kernel), List.mem_of_getElem? (i := 662) (by decide +kernel), List.mem_of_getElem? (i := 663) (by decide +kernel)⟩
theorem lw_p5 : lw_okq (⟨"PaneLight", "asHalo", "(I)I"⟩, 9) := ⟨⟨by decide +kernel, by decide +kernel⟩, List.mem_of_getElem? (i := 17) (by decide +kernel), List.mem_of_getElem? (i := 667) (by decide +kernel), List.mem_of_getElem? (i := 668) (by decide +kernel)⟩
theorem lw_p6 : lw_okq (⟨"PaneLight", "asTail", "(I)I"⟩, 9) := ⟨⟨by decide +kernel, by decide +kernel⟩, List.mem_of_getElem? (i := 17) (by decide +kernel), List.mem_of_getElem? (i := 672) (by decide +kernel), List.mem_of_getElem? (i := 673) (by decide +kernel)⟩
theorem lw_p7 : lw_okq (⟨"PaneLight", "asLead", "(I)I"⟩, 9) := ⟨⟨by decide +kernel, by decide +kernel⟩, List.mem_of_getElem? (i := 17) (by decide +kernel), List.mem_of_getElem? (i := 677) (by decide +kernel), List.mem_of_getElem? (i := 678) (by decide +kernel)⟩
theorem lw_p8 : lw_okq (⟨"PaneLightModel", "begins", "(II)V"⟩, 34) := ⟨⟨by decide +kernel, by decide +kernel⟩, List.mem_of_getElem? (i := 702) (by decide +kernel), List.mem_of_getElem? (i := 708) (by decide +kernel), List.mem_of_getElem? (i := 709) (by decide +kernel)⟩
theorem lw_p9 : lw_okq (⟨"PaneLightModel", "step", "()V"⟩, 34) := ⟨⟨by decide +kernel, by decide +kernel⟩, List.mem_of_getElem? (i := 702) (by decide +kernel), List.mem_of_getElem? (i := 832) (by decide +kernel), List.mem_of_getElem? (i := 833) (by decide +kernel)⟩
theorem lw_p10 : lw_okq (⟨"PaneLightModel", "isLetter", "()Z"⟩, 34) := ⟨⟨by decide +kernel, by decide +kernel⟩, List.mem_of_getElem? (i := 702) (by decide +kernel), List.mem_of_getElem? (i := 836) (by decide +kernel), List.mem_of_getElem? (i := 837) (by decide +kernel)⟩
theorem lw_p11 : lw_okq (⟨"PaneLightModel", "isFigure", "()Z"⟩, 34) := ⟨⟨by decide +kernel, by decide +kernel⟩, List.mem_of_getElem? (i := 702) (by decide +kernel), List.mem_of_getElem? (i := 842) (by decide +kernel), List.mem_of_getElem? (i := 843) (by decide +kernel)⟩
theorem lw_p12 : lw_okq (⟨"PaneLightModel", "readsItem", "(Z)Z"⟩, 34) := ⟨⟨by decide +kernel, by decide +kernel⟩, List.mem_of_getElem? (i := 702) (by decide +kernel), List.mem_of_getElem? (i := 848) (by decide +kernel), List.mem_of_getElem? (i := 849) (by decide +kernel)⟩
theorem lw_p13 : lw_okq (⟨"PaneLightModel", "readsWindow", "()Z"⟩, 34) := ⟨⟨by decide +kernel, by decide +kernel⟩, List.mem_of_getElem? (i := 702) (by decide +kernel), List.mem_of_getElem? (i := 852) (by decide +kernel), List.mem_of_getElem? (i := 853) (by decide +kernel)⟩
theorem lw_p14 : lw_okq (⟨"PaneLightModel", "number", "(II)Z"⟩, 34) := ⟨⟨by decide +kernel, by decide +kernel⟩, List.mem_of_getElem? (i := 702) (by decide +kernel), List.mem_of_getElem? (i := 856) (by decide +kernel), List.mem_of_getElem? (i := 857) (by decide +kernel)⟩
theorem lw_p15 : lw_okq (⟨"PaneLightModel", "readsPane", "()Z"⟩, 34) := ⟨⟨by decide +kernel, by decide +kernel⟩, List.mem_of_getElem? (i := 702) (by decide +kernel), List.mem_of_getElem? (i := 860) (by decide +kernel), List.mem_of_getElem? (i := 861) (by decide +kernel)⟩
def lw_privs_1 : List (MethodName × Nat) := [(⟨"PaneLight", "isSheet", "(I)Z"⟩, 9), (⟨"PaneLight", "clearOfHundred", "(III)I"⟩, 9), (⟨"PaneLight", "asPane", "(I)I"⟩, 9), (⟨"PaneLight", "asSaint", "(I)I"⟩, 9), (⟨"PaneLight", "asDevil", "(I)I"⟩, 9), (⟨"PaneLight", "asHalo", "(I)I"⟩, 9), (⟨"PaneLight", "asTail", "(I)I"⟩, 9), (⟨"PaneLight", "asLead", "(I)I"⟩, 9), (⟨"PaneLightModel", "begins", "(II)V"⟩, 34), (⟨"PaneLightModel", "step", "()V"⟩, 34), (⟨"PaneLightModel", "isLetter", "()Z"⟩, 34), (⟨"PaneLightModel", "isFigure", "()Z"⟩, 34), (⟨"PaneLightModel", "readsItem", "(Z)Z"⟩, 34), (⟨"PaneLightModel", "readsWindow", "()Z"⟩, 34), (⟨"PaneLightModel", "number", "(II)Z"⟩, 34), (⟨"PaneLightModel", "readsPane", "()Z"⟩, 34)]
theorem lw_r1 : ∀ q ∈ lw_privs_1, lw_okq q := List.forall_mem_cons.mpr ⟨lw_p0, List.forall_mem_cons.mpr ⟨lw_p1, List.forall_mem_cons.mpr ⟨lw_p2, List.forall_mem_cons.mpr ⟨lw_p3, List.forall_mem_cons.mpr ⟨lw_p4, List.forall_mem_cons.mpr ⟨lw_p5, List.forall_mem_cons.mpr ⟨lw_p6, List.forall_mem_cons.mpr ⟨lw_p7, List.forall_mem_cons.mpr ⟨lw_p8, List.forall_mem_cons.mpr ⟨lw_p9, List.forall_mem_cons.mpr ⟨lw_p10, List.forall_mem_cons.mpr ⟨lw_p11, List.forall_mem_cons.mpr ⟨lw_p12, List.forall_mem_cons.mpr ⟨lw_p13, List.forall_mem_cons.mpr ⟨lw_p14, List.forall_mem_cons.mpr ⟨lw_p15, fun _ h => absurd h List.not_mem_nil⟩⟩⟩⟩⟩⟩⟩⟩⟩⟩⟩⟩⟩⟩⟩⟩
theorem lw_p16 : lw_okq (⟨"PaneLightModel", "readsSheet", "()Z"⟩, 34) := ⟨⟨by decide +kernel, by decide +kernel⟩, List.mem_of_getElem? (i := 702) (by decide +kernel), List.mem_of_getElem? (i := 864) (by decide +kernel), List.mem_of_getElem? (i := 865) (by decide +kernel)⟩
theorem lw_p17 : lw_okq (⟨"PaneLightModel", "readsMirror", "()Z"⟩, 34) := ⟨⟨by decide +kernel, by decide +kernel⟩, List.mem_of_getElem? (i := 702) (by decide +kernel), List.mem_of_getElem? (i := 868) (by decide +kernel), List.mem_of_getElem? (i := 869) (by decide +kernel)⟩
theorem lw_p18 : lw_okq (⟨"PaneLightModel", "readsSeason", "()Z"⟩, 34) := ⟨⟨by decide +kernel, by decide +kernel⟩, List.mem_of_getElem? (i := 702) (by decide +kernel), List.mem_of_getElem? (i := 872) (by decide +kernel), List.mem_of_getElem? (i := 873) (by decide +kernel)⟩
theorem lw_p19 : lw_okq (⟨"PaneLightModel", "isPane", "(II)Z"⟩, 34) := ⟨⟨by decide +kernel, by decide +kernel⟩, List.mem_of_getElem? (i := 702) (by decide +kernel), List.mem_of_getElem? (i := 883) (by decide +kernel), List.mem_of_getElem? (i := 884) (by decide +kernel)⟩
theorem lw_p20 : lw_okq (⟨"PaneLightModel", "sheetsAt", "([II)I"⟩, 34) := ⟨⟨by decide +kernel, by decide +kernel⟩, List.mem_of_getElem? (i := 702) (by decide +kernel), List.mem_of_getElem? (i := 887) (by decide +kernel), List.mem_of_getElem? (i := 888) (by decide +kernel)⟩
theorem lw_p21 : lw_okq (⟨"PaneLightModel", "lets", "([II)I"⟩, 34) := ⟨⟨by decide +kernel, by decide +kernel⟩, List.mem_of_getElem? (i := 702) (by decide +kernel), List.mem_of_getElem? (i := 891) (by decide +kernel), List.mem_of_getElem? (i := 892) (by decide +kernel)⟩
theorem lw_p22 : lw_okq (⟨"PaneLightModel", "through", "(I)I"⟩, 34) := ⟨⟨by decide +kernel, by decide +kernel⟩, List.mem_of_getElem? (i := 702) (by decide +kernel), List.mem_of_getElem? (i := 898) (by decide +kernel), List.mem_of_getElem? (i := 899) (by decide +kernel)⟩
theorem lw_p23 : lw_okq (⟨"PaneLightModel", "isSheet", "(I)Z"⟩, 34) := ⟨⟨by decide +kernel, by decide +kernel⟩, List.mem_of_getElem? (i := 702) (by decide +kernel), List.mem_of_getElem? (i := 906) (by decide +kernel), List.mem_of_getElem? (i := 907) (by decide +kernel)⟩
theorem lw_p24 : lw_okq (⟨"PaneLightModel", "remember", "()V"⟩, 34) := ⟨⟨by decide +kernel, by decide +kernel⟩, List.mem_of_getElem? (i := 702) (by decide +kernel), List.mem_of_getElem? (i := 917) (by decide +kernel), List.mem_of_getElem? (i := 918) (by decide +kernel)⟩
theorem lw_p25 : lw_okq (⟨"PaneLightModel", "leadsNow", "()I"⟩, 34) := ⟨⟨by decide +kernel, by decide +kernel⟩, List.mem_of_getElem? (i := 702) (by decide +kernel), List.mem_of_getElem? (i := 950) (by decide +kernel), List.mem_of_getElem? (i := 951) (by decide +kernel)⟩
theorem lw_p26 : lw_okq (⟨"PaneLightModel", "layColours", "()V"⟩, 34) := ⟨⟨by decide +kernel, by decide +kernel⟩, List.mem_of_getElem? (i := 702) (by decide +kernel), List.mem_of_getElem? (i := 954) (by decide +kernel), List.mem_of_getElem? (i := 955) (by decide +kernel)⟩
theorem lw_p27 : lw_okq (⟨"PaneLightModel", "leads", "()I"⟩, 34) := ⟨⟨by decide +kernel, by decide +kernel⟩, List.mem_of_getElem? (i := 702) (by decide +kernel), List.mem_of_getElem? (i := 958) (by decide +kernel), List.mem_of_getElem? (i := 959) (by decide +kernel)⟩
theorem lw_p28 : lw_okq (⟨"PaneLightModel", "unlike", "(IIII)Z"⟩, 34) := ⟨⟨by decide +kernel, by decide +kernel⟩, List.mem_of_getElem? (i := 702) (by decide +kernel), List.mem_of_getElem? (i := 962) (by decide +kernel), List.mem_of_getElem? (i := 963) (by decide +kernel)⟩
theorem lw_p29 : lw_okq (⟨"PaneLightModel", "parts", "(Z)I"⟩, 34) := ⟨⟨by decide +kernel, by decide +kernel⟩, List.mem_of_getElem? (i := 702) (by decide +kernel), List.mem_of_getElem? (i := 966) (by decide +kernel), List.mem_of_getElem? (i := 967) (by decide +kernel)⟩
theorem lw_p30 : lw_okq (⟨"PaneLightModel", "partFrom", "(I)I"⟩, 34) := ⟨⟨by decide +kernel, by decide +kernel⟩, List.mem_of_getElem? (i := 702) (by decide +kernel), List.mem_of_getElem? (i := 970) (by decide +kernel), List.mem_of_getElem? (i := 971) (by decide +kernel)⟩
theorem lw_p31 : lw_okq (⟨"PaneLightModel", "lightOn", "([IIII)I"⟩, 34) := ⟨⟨by decide +kernel, by decide +kernel⟩, List.mem_of_getElem? (i := 702) (by decide +kernel), List.mem_of_getElem? (i := 992) (by decide +kernel), List.mem_of_getElem? (i := 993) (by decide +kernel)⟩
def lw_privs_2 : List (MethodName × Nat) := [(⟨"PaneLightModel", "readsSheet", "()Z"⟩, 34), (⟨"PaneLightModel", "readsMirror", "()Z"⟩, 34), (⟨"PaneLightModel", "readsSeason", "()Z"⟩, 34), (⟨"PaneLightModel", "isPane", "(II)Z"⟩, 34), (⟨"PaneLightModel", "sheetsAt", "([II)I"⟩, 34), (⟨"PaneLightModel", "lets", "([II)I"⟩, 34), (⟨"PaneLightModel", "through", "(I)I"⟩, 34), (⟨"PaneLightModel", "isSheet", "(I)Z"⟩, 34), (⟨"PaneLightModel", "remember", "()V"⟩, 34), (⟨"PaneLightModel", "leadsNow", "()I"⟩, 34), (⟨"PaneLightModel", "layColours", "()V"⟩, 34), (⟨"PaneLightModel", "leads", "()I"⟩, 34), (⟨"PaneLightModel", "unlike", "(IIII)Z"⟩, 34), (⟨"PaneLightModel", "parts", "(Z)I"⟩, 34), (⟨"PaneLightModel", "partFrom", "(I)I"⟩, 34), (⟨"PaneLightModel", "lightOn", "([IIII)I"⟩, 34)]
theorem lw_r2 : ∀ q ∈ lw_privs_2, lw_okq q := List.forall_mem_cons.mpr ⟨lw_p16, List.forall_mem_cons.mpr ⟨lw_p17, List.forall_mem_cons.mpr ⟨lw_p18, List.forall_mem_cons.mpr ⟨lw_p19, List.forall_mem_cons.mpr ⟨lw_p20, List.forall_mem_cons.mpr ⟨lw_p21, List.forall_mem_cons.mpr ⟨lw_p22, List.forall_mem_cons.mpr ⟨lw_p23, List.forall_mem_cons.mpr ⟨lw_p24, List.forall_mem_cons.mpr ⟨lw_p25, List.forall_mem_cons.mpr ⟨lw_p26, List.forall_mem_cons.mpr ⟨lw_p27, List.forall_mem_cons.mpr ⟨lw_p28, List.forall_mem_cons.mpr ⟨lw_p29, List.forall_mem_cons.mpr ⟨lw_p30, List.forall_mem_cons.mpr ⟨lw_p31, fun _ h => absurd h List.not_mem_nil⟩⟩⟩⟩⟩⟩⟩⟩⟩⟩⟩⟩⟩⟩⟩⟩
theorem lw_p32 : lw_okq (⟨"PaneLightModel", "paneAt", "([IIIIZ)I"⟩, 34) := ⟨⟨by decide +kernel, by decide +kernel⟩, List.mem_of_getElem? (i := 702) (by decide +kernel), List.mem_of_getElem? (i := 996) (by decide +kernel), List.mem_of_getElem? (i := 997) (by decide +kernel)⟩
theorem lw_p33 : lw_okq (⟨"PaneLightModel", "lightAt", "(II)I"⟩, 34) := ⟨⟨by decide +kernel, by decide +kernel⟩, List.mem_of_getElem? (i := 702) (by decide +kernel), List.mem_of_getElem? (i := 1007) (by decide +kernel), List.mem_of_getElem? (i := 1008) (by decide +kernel)⟩
theorem lw_p34 : lw_okq (⟨"PaneLightModel", "free", "(I)I"⟩, 34) := ⟨⟨by decide +kernel, by decide +kernel⟩, List.mem_of_getElem? (i := 702) (by decide +kernel), List.mem_of_getElem? (i := 1020) (by decide +kernel), List.mem_of_getElem? (i := 1021) (by decide +kernel)⟩
theorem lw_p35 : lw_okq (⟨"PaneLightModel", "letsNow", "(I)I"⟩, 34) := ⟨⟨by decide +kernel, by decide +kernel⟩, List.mem_of_getElem? (i := 702) (by decide +kernel), List.mem_of_getElem? (i := 1024) (by decide +kernel), List.mem_of_getElem? (i := 1025) (by decide +kernel)⟩
theorem lw_p36 : lw_okq (⟨"PaneLightModel", "layHours", "(I)V"⟩, 34) := ⟨⟨by decide +kernel, by decide +kernel⟩, List.mem_of_getElem? (i := 702) (by decide +kernel), List.mem_of_getElem? (i := 1033) (by decide +kernel), List.mem_of_getElem? (i := 1034) (by decide +kernel)⟩
theorem lw_p37 : lw_okq (⟨"PaneLightModel", "nextTile", "(II)I"⟩, 34) := ⟨⟨by decide +kernel, by decide +kernel⟩, List.mem_of_getElem? (i := 702) (by decide +kernel), List.mem_of_getElem? (i := 1037) (by decide +kernel), List.mem_of_getElem? (i := 1038) (by decide +kernel)⟩
theorem lw_p38 : lw_okq (⟨"PaneLightModel", "mayBe", "(I)Z"⟩, 34) := ⟨⟨by decide +kernel, by decide +kernel⟩, List.mem_of_getElem? (i := 702) (by decide +kernel), List.mem_of_getElem? (i := 1058) (by decide +kernel), List.mem_of_getElem? (i := 1059) (by decide +kernel)⟩
theorem lw_p39 : lw_okq (⟨"PaneLightModel", "layBroken", "(I)V"⟩, 34) := ⟨⟨by decide +kernel, by decide +kernel⟩, List.mem_of_getElem? (i := 702) (by decide +kernel), List.mem_of_getElem? (i := 1062) (by decide +kernel), List.mem_of_getElem? (i := 1063) (by decide +kernel)⟩
theorem lw_p40 : lw_okq (⟨"PaneLightModel", "isSo", "([I)Z"⟩, 34) := ⟨⟨by decide +kernel, by decide +kernel⟩, List.mem_of_getElem? (i := 702) (by decide +kernel), List.mem_of_getElem? (i := 1066) (by decide +kernel), List.mem_of_getElem? (i := 1067) (by decide +kernel)⟩
def lw_privs_3 : List (MethodName × Nat) := [(⟨"PaneLightModel", "paneAt", "([IIIIZ)I"⟩, 34), (⟨"PaneLightModel", "lightAt", "(II)I"⟩, 34), (⟨"PaneLightModel", "free", "(I)I"⟩, 34), (⟨"PaneLightModel", "letsNow", "(I)I"⟩, 34), (⟨"PaneLightModel", "layHours", "(I)V"⟩, 34), (⟨"PaneLightModel", "nextTile", "(II)I"⟩, 34), (⟨"PaneLightModel", "mayBe", "(I)Z"⟩, 34), (⟨"PaneLightModel", "layBroken", "(I)V"⟩, 34), (⟨"PaneLightModel", "isSo", "([I)Z"⟩, 34)]
theorem lw_r3 : ∀ q ∈ lw_privs_3, lw_okq q := List.forall_mem_cons.mpr ⟨lw_p32, List.forall_mem_cons.mpr ⟨lw_p33, List.forall_mem_cons.mpr ⟨lw_p34, List.forall_mem_cons.mpr ⟨lw_p35, List.forall_mem_cons.mpr ⟨lw_p36, List.forall_mem_cons.mpr ⟨lw_p37, List.forall_mem_cons.mpr ⟨lw_p38, List.forall_mem_cons.mpr ⟨lw_p39, List.forall_mem_cons.mpr ⟨lw_p40, fun _ h => absurd h List.not_mem_nil⟩⟩⟩⟩⟩⟩⟩⟩⟩
def lw_privs : List (MethodName × Nat) := lw_privs_1 ++ (lw_privs_2 ++ (lw_privs_3))
def lw_tbl : List Cond := k2_sels lw_privs ++ tables_1
theorem lw_privs_ok : ∀ q ∈ lw_privs, lw_okq q := by
  show ∀ q ∈ lw_privs_1 ++ (lw_privs_2 ++ (lw_privs_3)), lw_okq q
  exact List.forall_mem_append.mpr ⟨lw_r1, List.forall_mem_append.mpr ⟨lw_r2, lw_r3⟩⟩
end
section
def RX0 : String := "PaneLight$Leading"
def TX0 : u_T := fun k => match k with
  | _ => ("", "", "", false)
def tyX0 : Nat → FieldType := fun k => match k with
  | _ => .int
theorem nmX0 : ∀ a, a < 0 → ∀ b, b < 0 → a ≠ b → (TX0 a).2.1 ≠ (TX0 b).2.1 := by decide +kernel
theorem tyX0_ok : ∀ k, k < 0 → parseFieldDescriptor (TX0 k).2.2.1 = some (tyX0 k) := by decide +kernel
abbrev cX0_leads : ByteArray := prog_2_method_2_code
def yX0_leads : MethodName := ⟨RX0, "leads", "(LPaneLight$Scene;)I"⟩
abbrev cX0_leadsPainted : ByteArray := prog_2_method_3_code
def yX0_leadsPainted : MethodName := ⟨RX0, "leadsPainted", "(LPaneLight$Scene;II)I"⟩
abbrev cX0_bestPaint : ByteArray := prog_2_method_4_code
def yX0_bestPaint : MethodName := ⟨RX0, "bestPaint", "(LPaneLight$Scene;)I"⟩
abbrev cX0_addedBy : ByteArray := prog_2_method_5_code
def yX0_addedBy : MethodName := ⟨RX0, "addedBy", "(LPaneLight$Scene;II)I"⟩
abbrev cX0_unlikeBeside : ByteArray := prog_2_method_6_code
def yX0_unlikeBeside : MethodName := ⟨RX0, "unlikeBeside", "(LPaneLight$Scene;II)I"⟩
abbrev cX0_unlike : ByteArray := prog_2_method_7_code
def yX0_unlike : MethodName := ⟨RX0, "unlike", "(LPaneLight$Scene;II)I"⟩
abbrev cX0_parts : ByteArray := prog_2_method_8_code
def yX0_parts : MethodName := ⟨RX0, "parts", "(LPaneLight$Scene;)I"⟩
abbrev cX0_greatestPart : ByteArray := prog_2_method_9_code
def yX0_greatestPart : MethodName := ⟨RX0, "greatestPart", "(LPaneLight$Scene;)I"⟩
abbrev cX0_partOf : ByteArray := prog_2_method_10_code
def yX0_partOf : MethodName := ⟨RX0, "partOf", "(LPaneLight$Scene;I)I"⟩
abbrev cX0_panesOf : ByteArray := prog_2_method_11_code
def yX0_panesOf : MethodName := ⟨RX0, "panesOf", "(LPaneLight$Scene;I)I"⟩
abbrev cX0_beside : ByteArray := prog_2_method_12_code
def yX0_beside : MethodName := ⟨RX0, "beside", "(I)I"⟩
def RX1 : String := "PaneLight$Mixture"
def TX1 : u_T := fun k => match k with
  | 0 => ("PaneLight$Mixture", "found", "Z", false)
  | 1 => ("PaneLight$Mixture", "sheets", "I", false)
  | 2 => ("PaneLight$Mixture", "former", "I", false)
  | _ => ("PaneLight$Mixture", "latter", "I", false)
def tyX1 : Nat → FieldType := fun k => match k with
  | 0 => .boolean
  | 1 => .int
  | 2 => .int
  | _ => .int
theorem nmX1 : ∀ a, a < 4 → ∀ b, b < 4 → a ≠ b → (TX1 a).2.1 ≠ (TX1 b).2.1 := by decide +kernel
theorem tyX1_ok : ∀ k, k < 4 → parseFieldDescriptor (TX1 k).2.2.1 = some (tyX1 k) := by decide +kernel
abbrev cX1_init : ByteArray := prog_3_method_1_code
def yX1_init : MethodName := ⟨RX1, "<init>", "()V"⟩
abbrev cX1_seek : ByteArray := prog_3_method_2_code
def yX1_seek : MethodName := ⟨RX1, "seek", "(LPaneLight$Scene;III)V"⟩
abbrev cX1_seekLatter : ByteArray := prog_3_method_3_code
def yX1_seekLatter : MethodName := ⟨RX1, "seekLatter", "(LPaneLight$Scene;IIII)V"⟩
abbrev cX1_offer : ByteArray := prog_3_method_4_code
def yX1_offer : MethodName := ⟨RX1, "offer", "(II)V"⟩
def RX2 : String := "PaneLight$Moment"
def TX2 : u_T := fun k => match k with
  | 0 => ("PaneLight$Moment", "before", "[I", true)
  | 1 => ("PaneLight$Moment", "broken", "I", false)
  | 2 => ("PaneLight$Moment", "mirror", "I", false)
  | _ => ("PaneLight$Moment", "season", "I", false)
def tyX2 : Nat → FieldType := fun k => match k with
  | 0 => .array .int
  | 1 => .int
  | 2 => .int
  | _ => .int
theorem nmX2 : ∀ a, a < 4 → ∀ b, b < 4 → a ≠ b → (TX2 a).2.1 ≠ (TX2 b).2.1 := by decide +kernel
theorem tyX2_ok : ∀ k, k < 4 → parseFieldDescriptor (TX2 k).2.2.1 = some (tyX2 k) := by decide +kernel
abbrev cX2_init : ByteArray := prog_4_method_1_code
def yX2_init : MethodName := ⟨RX2, "<init>", "()V"⟩
abbrev cX2_become : ByteArray := prog_4_method_2_code
def yX2_become : MethodName := ⟨RX2, "become", "(LPaneLight$Moment;)V"⟩
def RX3 : String := "PaneLight$Plan"
def TX3 : u_T := fun k => match k with
  | 0 => ("PaneLight$Plan", "glass", "[I", true)
  | 1 => ("PaneLight$Plan", "pile", "[I", true)
  | 2 => ("PaneLight$Plan", "wide", "I", false)
  | 3 => ("PaneLight$Plan", "high", "I", false)
  | 4 => ("PaneLight$Plan", "sheets", "I", false)
  | 5 => ("PaneLight$Plan", "mirror", "I", false)
  | _ => ("PaneLight$Plan", "season", "I", false)
def tyX3 : Nat → FieldType := fun k => match k with
  | 0 => .array .int
  | 1 => .array .int
  | 2 => .int
  | 3 => .int
  | 4 => .int
  | 5 => .int
  | _ => .int
theorem nmX3 : ∀ a, a < 7 → ∀ b, b < 7 → a ≠ b → (TX3 a).2.1 ≠ (TX3 b).2.1 := by decide +kernel
theorem tyX3_ok : ∀ k, k < 7 → parseFieldDescriptor (TX3 k).2.2.1 = some (tyX3 k) := by decide +kernel
abbrev cX3_init : ByteArray := prog_5_method_1_code
def yX3_init : MethodName := ⟨RX3, "<init>", "()V"⟩
abbrev cX3_restart : ByteArray := prog_5_method_2_code
def yX3_restart : MethodName := ⟨RX3, "restart", "()V"⟩
abbrev cX3_addSheet : ByteArray := prog_5_method_3_code
def yX3_addSheet : MethodName := ⟨RX3, "addSheet", "(I)V"⟩
def RX4 : String := "PaneLight$Reader"
def TX4 : u_T := fun k => match k with
  | 0 => ("PaneLight$Reader", "text", "[I", true)
  | 1 => ("PaneLight$Reader", "length", "I", false)
  | 2 => ("PaneLight$Reader", "next", "I", false)
  | 3 => ("PaneLight$Reader", "start", "I", false)
  | 4 => ("PaneLight$Reader", "sort", "I", false)
  | 5 => ("PaneLight$Reader", "value", "I", false)
  | 6 => ("PaneLight$Reader", "mirrorTold", "Z", false)
  | _ => ("PaneLight$Reader", "seasonTold", "Z", false)
def tyX4 : Nat → FieldType := fun k => match k with
  | 0 => .array .int
  | 1 => .int
  | 2 => .int
  | 3 => .int
  | 4 => .int
  | 5 => .int
  | 6 => .boolean
  | _ => .boolean
theorem nmX4 : ∀ a, a < 8 → ∀ b, b < 8 → a ≠ b → (TX4 a).2.1 ≠ (TX4 b).2.1 := by decide +kernel
theorem tyX4_ok : ∀ k, k < 8 → parseFieldDescriptor (TX4 k).2.2.1 = some (tyX4 k) := by decide +kernel
abbrev cX4_init : ByteArray := prog_6_method_1_code
def yX4_init : MethodName := ⟨RX4, "<init>", "()V"⟩
abbrev cX4_add : ByteArray := prog_6_method_2_code
def yX4_add : MethodName := ⟨RX4, "add", "(I)Z"⟩
abbrev cX4_readInto : ByteArray := prog_6_method_3_code
def yX4_readInto : MethodName := ⟨RX4, "readInto", "(LPaneLight$Plan;)I"⟩
abbrev cX4_item : ByteArray := prog_6_method_4_code
def yX4_item : MethodName := ⟨RX4, "item", "(LPaneLight$Plan;Z)Z"⟩
abbrev cX4_size : ByteArray := prog_6_method_5_code
def yX4_size : MethodName := ⟨RX4, "size", "(LPaneLight$Plan;)Z"⟩
abbrev cX4_glass : ByteArray := prog_6_method_6_code
def yX4_glass : MethodName := ⟨RX4, "glass", "(LPaneLight$Plan;)Z"⟩
abbrev cX4_sheetColour : ByteArray := prog_6_method_7_code
def yX4_sheetColour : MethodName := ⟨RX4, "sheetColour", "(LPaneLight$Plan;)Z"⟩
abbrev cX4_mirror : ByteArray := prog_6_method_8_code
def yX4_mirror : MethodName := ⟨RX4, "mirror", "(LPaneLight$Plan;)Z"⟩
abbrev cX4_season : ByteArray := prog_6_method_9_code
def yX4_season : MethodName := ⟨RX4, "season", "(LPaneLight$Plan;)Z"⟩
abbrev cX4_number : ByteArray := prog_6_method_10_code
def yX4_number : MethodName := ⟨RX4, "number", "(II)Z"⟩
abbrev cX4_stop : ByteArray := prog_6_method_11_code
def yX4_stop : MethodName := ⟨RX4, "stop", "()Z"⟩
abbrev cX4_step : ByteArray := prog_6_method_12_code
def yX4_step : MethodName := ⟨RX4, "step", "()V"⟩
abbrev cX4_letters : ByteArray := prog_6_method_13_code
def yX4_letters : MethodName := ⟨RX4, "letters", "()V"⟩
abbrev cX4_digits : ByteArray := prog_6_method_14_code
def yX4_digits : MethodName := ⟨RX4, "digits", "()V"⟩
def RX5 : String := "PaneLight$Scene"
def TX5 : u_T := fun k => match k with
  | 0 => ("PaneLight$Scene", "story", "LPaneLight$Story;", true)
  | _ => ("PaneLight$Scene", "plan", "LPaneLight$Plan;", false)
def tyX5 : Nat → FieldType := fun k => match k with
  | 0 => .object "PaneLight$Story"
  | _ => .object "PaneLight$Plan"
theorem nmX5 : ∀ a, a < 2 → ∀ b, b < 2 → a ≠ b → (TX5 a).2.1 ≠ (TX5 b).2.1 := by decide +kernel
theorem tyX5_ok : ∀ k, k < 2 → parseFieldDescriptor (TX5 k).2.2.1 = some (tyX5 k) := by decide +kernel
abbrev cX5_init : ByteArray := prog_7_method_1_code
def yX5_init : MethodName := ⟨RX5, "<init>", "()V"⟩
abbrev cX5_paneAt : ByteArray := prog_7_method_2_code
def yX5_paneAt : MethodName := ⟨RX5, "paneAt", "(II)I"⟩
abbrev cX5_hasPane : ByteArray := prog_7_method_3_code
def yX5_hasPane : MethodName := ⟨RX5, "hasPane", "(I)Z"⟩
abbrev cX5_isBroken : ByteArray := prog_7_method_4_code
def yX5_isBroken : MethodName := ⟨RX5, "isBroken", "(I)Z"⟩
abbrev cX5_colourNow : ByteArray := prog_7_method_5_code
def yX5_colourNow : MethodName := ⟨RX5, "colourNow", "(I)I"⟩
abbrev cX5_letsThrough : ByteArray := prog_7_method_6_code
def yX5_letsThrough : MethodName := ⟨RX5, "letsThrough", "(I)I"⟩
abbrev cX5_paneBehind : ByteArray := prog_7_method_7_code
def yX5_paneBehind : MethodName := ⟨RX5, "paneBehind", "(I)I"⟩
abbrev cX5_box : ByteArray := prog_7_method_8_code
def yX5_box : MethodName := ⟨RX5, "box", "()I"⟩
abbrev cX5_roomBefore : ByteArray := prog_7_method_9_code
def yX5_roomBefore : MethodName := ⟨RX5, "roomBefore", "(I)I"⟩
abbrev cX5_lostAtFirstHour : ByteArray := prog_7_method_10_code
def yX5_lostAtFirstHour : MethodName := ⟨RX5, "lostAtFirstHour", "()I"⟩
abbrev cX5_paneByItself : ByteArray := prog_7_method_11_code
def yX5_paneByItself : MethodName := ⟨RX5, "paneByItself", "(II)I"⟩
abbrev cX5_paneByMirror : ByteArray := prog_7_method_12_code
def yX5_paneByMirror : MethodName := ⟨RX5, "paneByMirror", "(II)I"⟩
abbrev cX5_lightOf : ByteArray := prog_7_method_13_code
def yX5_lightOf : MethodName := ⟨RX5, "lightOf", "(II)I"⟩
abbrev cX5_lightIf : ByteArray := prog_7_method_14_code
def yX5_lightIf : MethodName := ⟨RX5, "lightIf", "(IIII)I"⟩
def RX6 : String := "PaneLight$Story"
def TX6 : u_T := fun k => match k with
  | 0 => ("PaneLight$Story", "moments", "[LPaneLight$Moment;", true)
  | 1 => ("PaneLight$Story", "past", "I", false)
  | _ => ("PaneLight$Story", "present", "LPaneLight$Moment;", false)
def tyX6 : Nat → FieldType := fun k => match k with
  | 0 => .array (.object "PaneLight$Moment")
  | 1 => .int
  | _ => .object "PaneLight$Moment"
theorem nmX6 : ∀ a, a < 3 → ∀ b, b < 3 → a ≠ b → (TX6 a).2.1 ≠ (TX6 b).2.1 := by decide +kernel
theorem tyX6_ok : ∀ k, k < 3 → parseFieldDescriptor (TX6 k).2.2.1 = some (tyX6 k) := by decide +kernel
abbrev cX6_init : ByteArray := prog_8_method_1_code
def yX6_init : MethodName := ⟨RX6, "<init>", "()V"⟩
abbrev cX6_restart : ByteArray := prog_8_method_2_code
def yX6_restart : MethodName := ⟨RX6, "restart", "(LPaneLight$Plan;)V"⟩
abbrev cX6_advance : ByteArray := prog_8_method_3_code
def yX6_advance : MethodName := ⟨RX6, "advance", "()LPaneLight$Moment;"⟩
abbrev cX6_retreat : ByteArray := prog_8_method_4_code
def yX6_retreat : MethodName := ⟨RX6, "retreat", "()V"⟩
abbrev cX6_loseOldest : ByteArray := prog_8_method_5_code
def yX6_loseOldest : MethodName := ⟨RX6, "loseOldest", "()V"⟩
abbrev cX6_become : ByteArray := prog_8_method_6_code
def yX6_become : MethodName := ⟨RX6, "become", "(LPaneLight$Story;)V"⟩
def RX7 : String := "PaneLight$Walk"
def TX7 : u_T := fun k => match k with
  | _ => ("PaneLight$Walk", "stands", "[I", true)
def tyX7 : Nat → FieldType := fun k => match k with
  | _ => .array .int
theorem nmX7 : ∀ a, a < 1 → ∀ b, b < 1 → a ≠ b → (TX7 a).2.1 ≠ (TX7 b).2.1 := by decide +kernel
theorem tyX7_ok : ∀ k, k < 1 → parseFieldDescriptor (TX7 k).2.2.1 = some (tyX7 k) := by decide +kernel
abbrev cX7_init : ByteArray := prog_9_method_1_code
def yX7_init : MethodName := ⟨RX7, "<init>", "()V"⟩
abbrev cX7_hoursFrom : ByteArray := prog_9_method_2_code
def yX7_hoursFrom : MethodName := ⟨RX7, "hoursFrom", "(LPaneLight$Scene;III)I"⟩
abbrev cX7_tileAfter : ByteArray := prog_9_method_3_code
def yX7_tileAfter : MethodName := ⟨RX7, "tileAfter", "(III)I"⟩
abbrev cX7_onward : ByteArray := prog_9_method_4_code
def yX7_onward : MethodName := ⟨RX7, "onward", "(II)I"⟩
abbrev cX7_better : ByteArray := prog_9_method_5_code
def yX7_better : MethodName := ⟨RX7, "better", "(III)I"⟩
def RX8 : String := "PaneLight$Witness"
def TX8 : u_T := fun k => match k with
  | 0 => ("PaneLight$Witness", "places", "[I", true)
  | 1 => ("PaneLight$Witness", "colours", "[I", true)
  | _ => ("PaneLight$Witness", "seen", "I", false)
def tyX8 : Nat → FieldType := fun k => match k with
  | 0 => .array .int
  | 1 => .array .int
  | _ => .int
theorem nmX8 : ∀ a, a < 3 → ∀ b, b < 3 → a ≠ b → (TX8 a).2.1 ≠ (TX8 b).2.1 := by decide +kernel
theorem tyX8_ok : ∀ k, k < 3 → parseFieldDescriptor (TX8 k).2.2.1 = some (tyX8 k) := by decide +kernel
abbrev cX8_init : ByteArray := prog_10_method_1_code
def yX8_init : MethodName := ⟨RX8, "<init>", "()V"⟩
abbrev cX8_add : ByteArray := prog_10_method_2_code
def yX8_add : MethodName := ⟨RX8, "add", "(II)Z"⟩
abbrev cX8_agrees : ByteArray := prog_10_method_3_code
def yX8_agrees : MethodName := ⟨RX8, "agrees", "(LPaneLight$Scene;II)Z"⟩
abbrev cX8_suspected : ByteArray := prog_10_method_4_code
def yX8_suspected : MethodName := ⟨RX8, "suspected", "(LPaneLight$Scene;)I"⟩
abbrev cX8_glassesOf : ByteArray := prog_10_method_5_code
def yX8_glassesOf : MethodName := ⟨RX8, "glassesOf", "(LPaneLight$Scene;I)I"⟩
abbrev cX8_bestPlace : ByteArray := prog_10_method_6_code
def yX8_bestPlace : MethodName := ⟨RX8, "bestPlace", "(LPaneLight$Scene;I)I"⟩
abbrev cX8_mostAlike : ByteArray := prog_10_method_7_code
def yX8_mostAlike : MethodName := ⟨RX8, "mostAlike", "(LPaneLight$Scene;III)I"⟩
abbrev cX8_bitOf : ByteArray := prog_10_method_8_code
def yX8_bitOf : MethodName := ⟨RX8, "bitOf", "(II)I"⟩
def RX9 : String := "PaneLight"
def TX9 : u_T := fun k => match k with
  | 0 => ("PaneLight", "reader", "LPaneLight$Reader;", true)
  | 1 => ("PaneLight", "scene", "LPaneLight$Scene;", true)
  | 2 => ("PaneLight", "mixture", "LPaneLight$Mixture;", true)
  | 3 => ("PaneLight", "walk", "LPaneLight$Walk;", true)
  | 4 => ("PaneLight", "witness", "LPaneLight$Witness;", true)
  | 5 => ("PaneLight", "images", "[LPaneLight$Story;", true)
  | 6 => ("PaneLight", "draft", "LPaneLight$Plan;", false)
  | 7 => ("PaneLight", "kept", "I", false)
  | _ => ("PaneLight", "traced", "J", false)
def tyX9 : Nat → FieldType := fun k => match k with
  | 0 => .object "PaneLight$Reader"
  | 1 => .object "PaneLight$Scene"
  | 2 => .object "PaneLight$Mixture"
  | 3 => .object "PaneLight$Walk"
  | 4 => .object "PaneLight$Witness"
  | 5 => .array (.object "PaneLight$Story")
  | 6 => .object "PaneLight$Plan"
  | 7 => .int
  | _ => .long
theorem nmX9 : ∀ a, a < 9 → ∀ b, b < 9 → a ≠ b → (TX9 a).2.1 ≠ (TX9 b).2.1 := by decide +kernel
theorem tyX9_ok : ∀ k, k < 9 → parseFieldDescriptor (TX9 k).2.2.1 = some (tyX9 k) := by decide +kernel
abbrev cX9_init : ByteArray := prog_1_method_1_code
def yX9_init : MethodName := ⟨RX9, "<init>", "()V"⟩
abbrev cX9_type : ByteArray := prog_1_method_2_code
def yX9_type : MethodName := ⟨RX9, "type", "(I)I"⟩
abbrev cX9_clear : ByteArray := prog_1_method_3_code
def yX9_clear : MethodName := ⟨RX9, "clear", "()I"⟩
abbrev cX9_window : ByteArray := prog_1_method_4_code
def yX9_window : MethodName := ⟨RX9, "window", "()I"⟩
abbrev cX9_pane : ByteArray := prog_1_method_5_code
def yX9_pane : MethodName := ⟨RX9, "pane", "(III)I"⟩
abbrev cX9_sheet : ByteArray := prog_1_method_6_code
def yX9_sheet : MethodName := ⟨RX9, "sheet", "(II)I"⟩
abbrev cX9_lays : ByteArray := prog_1_method_7_code
def yX9_lays : MethodName := ⟨RX9, "lays", "(III)I"⟩
abbrev cX9_takes : ByteArray := prog_1_method_8_code
def yX9_takes : MethodName := ⟨RX9, "takes", "(I)I"⟩
abbrev cX9_breaks : ByteArray := prog_1_method_9_code
def yX9_breaks : MethodName := ⟨RX9, "breaks", "(II)I"⟩
abbrev cX9_mends : ByteArray := prog_1_method_10_code
def yX9_mends : MethodName := ⟨RX9, "mends", "(II)I"⟩
abbrev cX9_moves : ByteArray := prog_1_method_11_code
def yX9_moves : MethodName := ⟨RX9, "moves", "(II)I"⟩
abbrev cX9_undo : ByteArray := prog_1_method_12_code
def yX9_undo : MethodName := ⟨RX9, "undo", "()I"⟩
abbrev cX9_now : ByteArray := prog_1_method_13_code
def yX9_now : MethodName := ⟨RX9, "now", "(I)I"⟩
abbrev cX9_light : ByteArray := prog_1_method_14_code
def yX9_light : MethodName := ⟨RX9, "light", "(III)I"⟩
abbrev cX9_lit : ByteArray := prog_1_method_15_code
def yX9_lit : MethodName := ⟨RX9, "lit", "(III)I"⟩
abbrev cX9_when : ByteArray := prog_1_method_16_code
def yX9_when : MethodName := ⟨RX9, "when", "(III)I"⟩
abbrev cX9_mix : ByteArray := prog_1_method_17_code
def yX9_mix : MethodName := ⟨RX9, "mix", "(IIIII)I"⟩
abbrev cX9_child : ByteArray := prog_1_method_18_code
def yX9_child : MethodName := ⟨RX9, "child", "(IIIII)I"⟩
abbrev cX9_paint : ByteArray := prog_1_method_19_code
def yX9_paint : MethodName := ⟨RX9, "paint", "(I)I"⟩
abbrev cX9_hail : ByteArray := prog_1_method_20_code
def yX9_hail : MethodName := ⟨RX9, "hail", "(IIIII)I"⟩
abbrev cX9_saw : ByteArray := prog_1_method_21_code
def yX9_saw : MethodName := ⟨RX9, "saw", "(IIII)I"⟩
abbrev cX9_forget : ByteArray := prog_1_method_22_code
def yX9_forget : MethodName := ⟨RX9, "forget", "()I"⟩
abbrev cX9_suspects : ByteArray := prog_1_method_23_code
def yX9_suspects : MethodName := ⟨RX9, "suspects", "()I"⟩
abbrev cX9_glasses : ByteArray := prog_1_method_24_code
def yX9_glasses : MethodName := ⟨RX9, "glasses", "(II)I"⟩
abbrev cX9_look : ByteArray := prog_1_method_25_code
def yX9_look : MethodName := ⟨RX9, "look", "()I"⟩
abbrev cX9_mark : ByteArray := prog_1_method_26_code
def yX9_mark : MethodName := ⟨RX9, "mark", "(III)I"⟩
abbrev cX9_keep : ByteArray := prog_1_method_27_code
def yX9_keep : MethodName := ⟨RX9, "keep", "(I)I"⟩
abbrev cX9_back : ByteArray := prog_1_method_28_code
def yX9_back : MethodName := ⟨RX9, "back", "(I)I"⟩
abbrev cX9_count : ByteArray := prog_1_method_29_code
def yX9_count : MethodName := ⟨RX9, "count", "(I)I"⟩
abbrev cX9_trace : ByteArray := prog_1_method_30_code
def yX9_trace : MethodName := ⟨RX9, "trace", "()J"⟩
abbrev cX9_isSheet : ByteArray := prog_1_method_31_code
def yX9_isSheet : MethodName := ⟨RX9, "isSheet", "(I)Z"⟩
abbrev cX9_isTile : ByteArray := prog_1_method_32_code
def yX9_isTile : MethodName := ⟨RX9, "isTile", "(II)Z"⟩
abbrev cX9_isHour : ByteArray := prog_1_method_33_code
def yX9_isHour : MethodName := ⟨RX9, "isHour", "(I)Z"⟩
abbrev cX9_isColour : ByteArray := prog_1_method_34_code
def yX9_isColour : MethodName := ⟨RX9, "isColour", "(I)Z"⟩
abbrev cX9_numberOf : ByteArray := prog_1_method_35_code
def yX9_numberOf : MethodName := ⟨RX9, "numberOf", "(II)I"⟩
abbrev cX9_asPane : ByteArray := prog_1_method_36_code
def yX9_asPane : MethodName := ⟨RX9, "asPane", "(I)I"⟩
abbrev cX9_asSaint : ByteArray := prog_1_method_37_code
def yX9_asSaint : MethodName := ⟨RX9, "asSaint", "(I)I"⟩
abbrev cX9_asDevil : ByteArray := prog_1_method_38_code
def yX9_asDevil : MethodName := ⟨RX9, "asDevil", "(I)I"⟩
abbrev cX9_asHalo : ByteArray := prog_1_method_39_code
def yX9_asHalo : MethodName := ⟨RX9, "asHalo", "(I)I"⟩
abbrev cX9_asTail : ByteArray := prog_1_method_40_code
def yX9_asTail : MethodName := ⟨RX9, "asTail", "(I)I"⟩
abbrev cX9_asLead : ByteArray := prog_1_method_41_code
def yX9_asLead : MethodName := ⟨RX9, "asLead", "(I)I"⟩
abbrev cX9_clearOfHundred : ByteArray := prog_1_method_42_code
def yX9_clearOfHundred : MethodName := ⟨RX9, "clearOfHundred", "(III)I"⟩
abbrev cX9_greatestDivisor : ByteArray := prog_1_method_43_code
def yX9_greatestDivisor : MethodName := ⟨RX9, "greatestDivisor", "(II)I"⟩
def RX10 : String := "PaneLightModel"
def TX10 : u_T := fun k => match k with
  | 0 => ("PaneLightModel", "wide", "I", false)
  | 1 => ("PaneLightModel", "high", "I", false)
  | 2 => ("PaneLightModel", "glass", "[I", true)
  | 3 => ("PaneLightModel", "colours", "[I", true)
  | 4 => ("PaneLightModel", "sheets", "I", false)
  | 5 => ("PaneLightModel", "now", "[I", true)
  | 6 => ("PaneLightModel", "aside", "[I", true)
  | 7 => ("PaneLightModel", "past", "[I", true)
  | 8 => ("PaneLightModel", "undos", "I", false)
  | 9 => ("PaneLightModel", "images", "[I", true)
  | 10 => ("PaneLightModel", "imagePast", "[I", true)
  | 11 => ("PaneLightModel", "imageUndos", "[I", true)
  | 12 => ("PaneLightModel", "kept", "[Z", true)
  | 13 => ("PaneLightModel", "sights", "[I", true)
  | 14 => ("PaneLightModel", "sightMany", "I", false)
  | 15 => ("PaneLightModel", "text", "[I", true)
  | 16 => ("PaneLightModel", "size", "I", false)
  | 17 => ("PaneLightModel", "trace", "J", false)
  | 18 => ("PaneLightModel", "at", "I", false)
  | 19 => ("PaneLightModel", "begin", "I", false)
  | 20 => ("PaneLightModel", "token", "I", false)
  | 21 => ("PaneLightModel", "letters", "I", false)
  | 22 => ("PaneLightModel", "value", "I", false)
  | 23 => ("PaneLightModel", "readWide", "I", false)
  | 24 => ("PaneLightModel", "readHigh", "I", false)
  | 25 => ("PaneLightModel", "readGlass", "[I", true)
  | 26 => ("PaneLightModel", "readColours", "[I", true)
  | 27 => ("PaneLightModel", "readSheets", "I", false)
  | 28 => ("PaneLightModel", "readMirror", "I", false)
  | 29 => ("PaneLightModel", "readSeason", "I", false)
  | 30 => ("PaneLightModel", "paint", "[I", true)
  | 31 => ("PaneLightModel", "waits", "[I", true)
  | 32 => ("PaneLightModel", "hours", "[I", true)
  | _ => ("PaneLightModel", "alike", "[I", true)
def tyX10 : Nat → FieldType := fun k => match k with
  | 0 => .int
  | 1 => .int
  | 2 => .array .int
  | 3 => .array .int
  | 4 => .int
  | 5 => .array .int
  | 6 => .array .int
  | 7 => .array .int
  | 8 => .int
  | 9 => .array .int
  | 10 => .array .int
  | 11 => .array .int
  | 12 => .array .boolean
  | 13 => .array .int
  | 14 => .int
  | 15 => .array .int
  | 16 => .int
  | 17 => .long
  | 18 => .int
  | 19 => .int
  | 20 => .int
  | 21 => .int
  | 22 => .int
  | 23 => .int
  | 24 => .int
  | 25 => .array .int
  | 26 => .array .int
  | 27 => .int
  | 28 => .int
  | 29 => .int
  | 30 => .array .int
  | 31 => .array .int
  | 32 => .array .int
  | _ => .array .int
theorem nmX10 : ∀ a, a < 34 → ∀ b, b < 34 → a ≠ b → (TX10 a).2.1 ≠ (TX10 b).2.1 := by decide +kernel
theorem tyX10_ok : ∀ k, k < 34 → parseFieldDescriptor (TX10 k).2.2.1 = some (tyX10 k) := by decide +kernel
abbrev cX10_init : ByteArray := prog_12_method_1_code
def yX10_init : MethodName := ⟨RX10, "<init>", "()V"⟩
abbrev cX10_in : ByteArray := prog_12_method_3_code
def yX10_in : MethodName := ⟨RX10, "in", "(JJJ)Z"⟩
abbrev cX10_has : ByteArray := prog_12_method_4_code
def yX10_has : MethodName := ⟨RX10, "has", "(II)Z"⟩
abbrev cX10_bits : ByteArray := prog_12_method_5_code
def yX10_bits : MethodName := ⟨RX10, "bits", "(I)I"⟩
abbrev cX10_copies : ByteArray := prog_12_method_6_code
def yX10_copies : MethodName := ⟨RX10, "copies", "([II[III)V"⟩
abbrev cX10_begins : ByteArray := prog_12_method_7_code
def yX10_begins : MethodName := ⟨RX10, "begins", "(II)V"⟩
abbrev cX10_type : ByteArray := prog_12_method_8_code
def yX10_type : MethodName := ⟨RX10, "type", "(I)I"⟩
abbrev cX10_clear : ByteArray := prog_12_method_9_code
def yX10_clear : MethodName := ⟨RX10, "clear", "()I"⟩
abbrev cX10_isLetter : ByteArray := prog_12_method_10_code
def yX10_isLetter : MethodName := ⟨RX10, "isLetter", "()Z"⟩
abbrev cX10_isFigure : ByteArray := prog_12_method_11_code
def yX10_isFigure : MethodName := ⟨RX10, "isFigure", "()Z"⟩
abbrev cX10_step : ByteArray := prog_12_method_12_code
def yX10_step : MethodName := ⟨RX10, "step", "()V"⟩
abbrev cX10_number : ByteArray := prog_12_method_13_code
def yX10_number : MethodName := ⟨RX10, "number", "(II)Z"⟩
abbrev cX10_readsWindow : ByteArray := prog_12_method_14_code
def yX10_readsWindow : MethodName := ⟨RX10, "readsWindow", "()Z"⟩
abbrev cX10_readsPane : ByteArray := prog_12_method_15_code
def yX10_readsPane : MethodName := ⟨RX10, "readsPane", "()Z"⟩
abbrev cX10_readsSheet : ByteArray := prog_12_method_16_code
def yX10_readsSheet : MethodName := ⟨RX10, "readsSheet", "()Z"⟩
abbrev cX10_readsMirror : ByteArray := prog_12_method_17_code
def yX10_readsMirror : MethodName := ⟨RX10, "readsMirror", "()Z"⟩
abbrev cX10_readsSeason : ByteArray := prog_12_method_18_code
def yX10_readsSeason : MethodName := ⟨RX10, "readsSeason", "()Z"⟩
abbrev cX10_readsItem : ByteArray := prog_12_method_19_code
def yX10_readsItem : MethodName := ⟨RX10, "readsItem", "(Z)Z"⟩
abbrev cX10_window : ByteArray := prog_12_method_20_code
def yX10_window : MethodName := ⟨RX10, "window", "()I"⟩
abbrev cX10_isPane : ByteArray := prog_12_method_21_code
def yX10_isPane : MethodName := ⟨RX10, "isPane", "(II)Z"⟩
abbrev cX10_isSheet : ByteArray := prog_12_method_22_code
def yX10_isSheet : MethodName := ⟨RX10, "isSheet", "(I)Z"⟩
abbrev cX10_isTile : ByteArray := prog_12_method_23_code
def yX10_isTile : MethodName := ⟨RX10, "isTile", "(II)Z"⟩
abbrev cX10_isHour : ByteArray := prog_12_method_24_code
def yX10_isHour : MethodName := ⟨RX10, "isHour", "(I)Z"⟩
abbrev cX10_isColour : ByteArray := prog_12_method_25_code
def yX10_isColour : MethodName := ⟨RX10, "isColour", "(I)Z"⟩
abbrev cX10_sheetsAt : ByteArray := prog_12_method_26_code
def yX10_sheetsAt : MethodName := ⟨RX10, "sheetsAt", "([II)I"⟩
abbrev cX10_through : ByteArray := prog_12_method_27_code
def yX10_through : MethodName := ⟨RX10, "through", "(I)I"⟩
abbrev cX10_lets : ByteArray := prog_12_method_28_code
def yX10_lets : MethodName := ⟨RX10, "lets", "([II)I"⟩
abbrev cX10_paneAt : ByteArray := prog_12_method_29_code
def yX10_paneAt : MethodName := ⟨RX10, "paneAt", "([IIIIZ)I"⟩
abbrev cX10_lightOn : ByteArray := prog_12_method_30_code
def yX10_lightOn : MethodName := ⟨RX10, "lightOn", "([IIII)I"⟩
abbrev cX10_lightAt : ByteArray := prog_12_method_31_code
def yX10_lightAt : MethodName := ⟨RX10, "lightAt", "(II)I"⟩
abbrev cX10_breaksOn : ByteArray := prog_12_method_32_code
def yX10_breaksOn : MethodName := ⟨RX10, "breaksOn", "([II)V"⟩
abbrev cX10_pane : ByteArray := prog_12_method_33_code
def yX10_pane : MethodName := ⟨RX10, "pane", "(III)I"⟩
abbrev cX10_sheet : ByteArray := prog_12_method_34_code
def yX10_sheet : MethodName := ⟨RX10, "sheet", "(II)I"⟩
abbrev cX10_remember : ByteArray := prog_12_method_35_code
def yX10_remember : MethodName := ⟨RX10, "remember", "()V"⟩
abbrev cX10_lays : ByteArray := prog_12_method_36_code
def yX10_lays : MethodName := ⟨RX10, "lays", "(III)I"⟩
abbrev cX10_takes : ByteArray := prog_12_method_37_code
def yX10_takes : MethodName := ⟨RX10, "takes", "(I)I"⟩
abbrev cX10_breaks : ByteArray := prog_12_method_38_code
def yX10_breaks : MethodName := ⟨RX10, "breaks", "(II)I"⟩
abbrev cX10_mends : ByteArray := prog_12_method_39_code
def yX10_mends : MethodName := ⟨RX10, "mends", "(II)I"⟩
abbrev cX10_moves : ByteArray := prog_12_method_40_code
def yX10_moves : MethodName := ⟨RX10, "moves", "(II)I"⟩
abbrev cX10_undo : ByteArray := prog_12_method_41_code
def yX10_undo : MethodName := ⟨RX10, "undo", "()I"⟩
abbrev cX10_layColours : ByteArray := prog_12_method_42_code
def yX10_layColours : MethodName := ⟨RX10, "layColours", "()V"⟩
abbrev cX10_unlike : ByteArray := prog_12_method_43_code
def yX10_unlike : MethodName := ⟨RX10, "unlike", "(IIII)Z"⟩
abbrev cX10_leads : ByteArray := prog_12_method_44_code
def yX10_leads : MethodName := ⟨RX10, "leads", "()I"⟩
abbrev cX10_partFrom : ByteArray := prog_12_method_45_code
def yX10_partFrom : MethodName := ⟨RX10, "partFrom", "(I)I"⟩
abbrev cX10_parts : ByteArray := prog_12_method_46_code
def yX10_parts : MethodName := ⟨RX10, "parts", "(Z)I"⟩
abbrev cX10_leadsNow : ByteArray := prog_12_method_47_code
def yX10_leadsNow : MethodName := ⟨RX10, "leadsNow", "()I"⟩
abbrev cX10_now : ByteArray := prog_12_method_48_code
def yX10_now : MethodName := ⟨RX10, "now", "(I)I"⟩
abbrev cX10_paint : ByteArray := prog_12_method_49_code
def yX10_paint : MethodName := ⟨RX10, "paint", "(I)I"⟩
abbrev cX10_light : ByteArray := prog_12_method_50_code
def yX10_light : MethodName := ⟨RX10, "light", "(III)I"⟩
abbrev cX10_lit : ByteArray := prog_12_method_51_code
def yX10_lit : MethodName := ⟨RX10, "lit", "(III)I"⟩
abbrev cX10_when : ByteArray := prog_12_method_52_code
def yX10_when : MethodName := ⟨RX10, "when", "(III)I"⟩
abbrev cX10_free : ByteArray := prog_12_method_53_code
def yX10_free : MethodName := ⟨RX10, "free", "(I)I"⟩
abbrev cX10_letsNow : ByteArray := prog_12_method_54_code
def yX10_letsNow : MethodName := ⟨RX10, "letsNow", "(I)I"⟩
abbrev cX10_mix : ByteArray := prog_12_method_55_code
def yX10_mix : MethodName := ⟨RX10, "mix", "(IIIII)I"⟩
abbrev cX10_layHours : ByteArray := prog_12_method_56_code
def yX10_layHours : MethodName := ⟨RX10, "layHours", "(I)V"⟩
abbrev cX10_nextTile : ByteArray := prog_12_method_57_code
def yX10_nextTile : MethodName := ⟨RX10, "nextTile", "(II)I"⟩
abbrev cX10_child : ByteArray := prog_12_method_58_code
def yX10_child : MethodName := ⟨RX10, "child", "(IIIII)I"⟩
abbrev cX10_hail : ByteArray := prog_12_method_59_code
def yX10_hail : MethodName := ⟨RX10, "hail", "(IIIII)I"⟩
abbrev cX10_saw : ByteArray := prog_12_method_60_code
def yX10_saw : MethodName := ⟨RX10, "saw", "(IIII)I"⟩
abbrev cX10_forget : ByteArray := prog_12_method_61_code
def yX10_forget : MethodName := ⟨RX10, "forget", "()I"⟩
abbrev cX10_isSo : ByteArray := prog_12_method_62_code
def yX10_isSo : MethodName := ⟨RX10, "isSo", "([I)Z"⟩
abbrev cX10_layBroken : ByteArray := prog_12_method_63_code
def yX10_layBroken : MethodName := ⟨RX10, "layBroken", "(I)V"⟩
abbrev cX10_mayBe : ByteArray := prog_12_method_64_code
def yX10_mayBe : MethodName := ⟨RX10, "mayBe", "(I)Z"⟩
abbrev cX10_suspects : ByteArray := prog_12_method_65_code
def yX10_suspects : MethodName := ⟨RX10, "suspects", "()I"⟩
abbrev cX10_glasses : ByteArray := prog_12_method_66_code
def yX10_glasses : MethodName := ⟨RX10, "glasses", "(II)I"⟩
abbrev cX10_look : ByteArray := prog_12_method_67_code
def yX10_look : MethodName := ⟨RX10, "look", "()I"⟩
abbrev cX10_mark : ByteArray := prog_12_method_68_code
def yX10_mark : MethodName := ⟨RX10, "mark", "(III)I"⟩
abbrev cX10_keep : ByteArray := prog_12_method_69_code
def yX10_keep : MethodName := ⟨RX10, "keep", "(I)I"⟩
abbrev cX10_back : ByteArray := prog_12_method_70_code
def yX10_back : MethodName := ⟨RX10, "back", "(I)I"⟩
abbrev cX10_count : ByteArray := prog_12_method_71_code
def yX10_count : MethodName := ⟨RX10, "count", "(I)I"⟩
abbrev cX10_trace : ByteArray := prog_12_method_72_code
def yX10_trace : MethodName := ⟨RX10, "trace", "()J"⟩
def RJ6 : String := "java/lang/Integer"
def TJ6 : u_T := fun k => match k with
  | _ => ("", "", "", false)
def tyJ6 : Nat → FieldType := fun k => match k with
  | _ => .int
theorem nmJ6 : ∀ a, a < 0 → ∀ b, b < 0 → a ≠ b → (TJ6 a).2.1 ≠ (TJ6 b).2.1 := by decide +kernel
theorem tyJ6_ok : ∀ k, k < 0 → parseFieldDescriptor (TJ6 k).2.2.1 = some (tyJ6 k) := by decide +kernel
abbrev cJ6_bitCount_0f7a4 : ByteArray := prog_13_method_49_code
def yJ6_bitCount_0f7a4 : MethodName := ⟨RJ6, "bitCount", "(I)I"⟩
def RJ9 : String := "java/lang/Math"
def TJ9 : u_T := fun k => match k with
  | _ => ("", "", "", false)
def tyJ9 : Nat → FieldType := fun k => match k with
  | _ => .int
theorem nmJ9 : ∀ a, a < 0 → ∀ b, b < 0 → a ≠ b → (TJ9 a).2.1 ≠ (TJ9 b).2.1 := by decide +kernel
theorem tyJ9_ok : ∀ k, k < 0 → parseFieldDescriptor (TJ9 k).2.2.1 = some (tyJ9 k) := by decide +kernel
abbrev cJ9_max_7cf53 : ByteArray := prog_14_method_65_code
def yJ9_max_7cf53 : MethodName := ⟨RJ9, "max", "(II)I"⟩
abbrev cJ9_min_7cf53 : ByteArray := prog_14_method_69_code
def yJ9_min_7cf53 : MethodName := ⟨RJ9, "min", "(II)I"⟩
def RJ10 : String := "java/lang/System"
def TJ10 : u_T := fun k => match k with
  | _ => ("", "", "", false)
def tyJ10 : Nat → FieldType := fun k => match k with
  | _ => .int
theorem nmJ10 : ∀ a, a < 0 → ∀ b, b < 0 → a ≠ b → (TJ10 a).2.1 ≠ (TJ10 b).2.1 := by decide +kernel
theorem tyJ10_ok : ∀ k, k < 0 → parseFieldDescriptor (TJ10 k).2.2.1 = some (tyJ10 k) := by decide +kernel
def RJ7 : String := "java/util/Arrays"
def TJ7 : u_T := fun k => match k with
  | _ => ("", "", "", false)
def tyJ7 : Nat → FieldType := fun k => match k with
  | _ => .int
theorem nmJ7 : ∀ a, a < 0 → ∀ b, b < 0 → a ≠ b → (TJ7 a).2.1 ≠ (TJ7 b).2.1 := by decide +kernel
theorem tyJ7_ok : ∀ k, k < 0 → parseFieldDescriptor (TJ7 k).2.2.1 = some (tyJ7 k) := by decide +kernel
abbrev cJ7_fill_53178 : ByteArray := prog_16_method_103_code
def yJ7_fill_53178 : MethodName := ⟨RJ7, "fill", "([II)V"⟩
def RL : String := "PaneLightLaw"
abbrev cL_law : ByteArray := code
def yL_law : MethodName := ⟨RL, "law", "([I)Z"⟩
abbrev vwCl : List vw_C := [(RX1, TX1, 4), (RX2, TX2, 4), (RX3, TX3, 7), (RX4, TX4, 8), (RX5, TX5, 2), (RX6, TX6, 3), (RX7, TX7, 1), (RX8, TX8, 3), (RX9, TX9, 9), (RX10, TX10, 34)]
end
section
theorem dX0_leads_0 : decode cX0_leads 0 = .ok (.iconst 0, 1) := by decide +kernel
theorem dX0_leads_1 : decode cX0_leads 1 = .ok (.istore_n 1, 1) := by decide +kernel
theorem dX0_leads_2 : decode cX0_leads 2 = .ok (.iconst 0, 1) := by decide +kernel
theorem dX0_leads_3 : decode cX0_leads 3 = .ok (.istore_n 2, 1) := by decide +kernel
theorem dX0_leads_4 : decode cX0_leads 4 = .ok (.iload_n 2, 1) := by decide +kernel
theorem dX0_leads_5 : decode cX0_leads 5 = .ok (.bipush 20, 2) := by decide +kernel
theorem dX0_leads_7 : decode cX0_leads 7 = .ok (.if_icmp .ge 30, 3) := by decide +kernel
theorem dX0_leads_10 : decode cX0_leads 10 = .ok (.aload_n 0, 1) := by decide +kernel
theorem dX0_leads_11 : decode cX0_leads 11 = .ok (.iload_n 2, 1) := by decide +kernel
theorem dX0_leads_12 : decode cX0_leads 12 = .ok (.invokevirtual 9, 3) := by decide +kernel
theorem dX0_leads_15 : decode cX0_leads 15 = .ok (.ifCond .eq 16, 3) := by decide +kernel
theorem dX0_leads_18 : decode cX0_leads 18 = .ok (.iload_n 1, 1) := by decide +kernel
theorem dX0_leads_19 : decode cX0_leads 19 = .ok (.aload_n 0, 1) := by decide +kernel
theorem dX0_leads_20 : decode cX0_leads 20 = .ok (.iload_n 2, 1) := by decide +kernel
theorem dX0_leads_21 : decode cX0_leads 21 = .ok (.aload_n 0, 1) := by decide +kernel
theorem dX0_leads_22 : decode cX0_leads 22 = .ok (.iload_n 2, 1) := by decide +kernel
theorem dX0_leads_23 : decode cX0_leads 23 = .ok (.invokevirtual 15, 3) := by decide +kernel
theorem dX0_leads_26 : decode cX0_leads 26 = .ok (.invokestatic 19, 3) := by decide +kernel
theorem dX0_leads_29 : decode cX0_leads 29 = .ok (.iadd, 1) := by decide +kernel
theorem dX0_leads_30 : decode cX0_leads 30 = .ok (.istore_n 1, 1) := by decide +kernel
theorem dX0_leads_31 : decode cX0_leads 31 = .ok (.iinc 2 1, 3) := by decide +kernel
theorem dX0_leads_34 : decode cX0_leads 34 = .ok (.goto (-30), 3) := by decide +kernel
theorem dX0_leads_37 : decode cX0_leads 37 = .ok (.iload_n 1, 1) := by decide +kernel
theorem dX0_leads_38 : decode cX0_leads 38 = .ok (.iconst 2, 1) := by decide +kernel
theorem dX0_leads_39 : decode cX0_leads 39 = .ok (.idiv, 1) := by decide +kernel
theorem dX0_leads_40 : decode cX0_leads 40 = .ok (.ireturn, 1) := by decide +kernel
theorem dX0_leadsPainted_0 : decode cX0_leadsPainted 0 = .ok (.aload_n 0, 1) := by decide +kernel
theorem dX0_leadsPainted_1 : decode cX0_leadsPainted 1 = .ok (.invokestatic 25, 3) := by decide +kernel
theorem dX0_leadsPainted_4 : decode cX0_leadsPainted 4 = .ok (.aload_n 0, 1) := by decide +kernel
theorem dX0_leadsPainted_5 : decode cX0_leadsPainted 5 = .ok (.iload_n 1, 1) := by decide +kernel
theorem dX0_leadsPainted_6 : decode cX0_leadsPainted 6 = .ok (.iload_n 2, 1) := by decide +kernel
theorem dX0_leadsPainted_7 : decode cX0_leadsPainted 7 = .ok (.invokestatic 29, 3) := by decide +kernel
theorem dX0_leadsPainted_10 : decode cX0_leadsPainted 10 = .ok (.iadd, 1) := by decide +kernel
theorem dX0_leadsPainted_11 : decode cX0_leadsPainted 11 = .ok (.ireturn, 1) := by decide +kernel
theorem dX0_bestPaint_0 : decode cX0_bestPaint 0 = .ok (.bipush (-9), 2) := by decide +kernel
theorem dX0_bestPaint_2 : decode cX0_bestPaint 2 = .ok (.istore_n 1, 1) := by decide +kernel
theorem dX0_bestPaint_3 : decode cX0_bestPaint 3 = .ok (.bipush 20, 2) := by decide +kernel
theorem dX0_bestPaint_5 : decode cX0_bestPaint 5 = .ok (.istore_n 2, 1) := by decide +kernel
theorem dX0_bestPaint_6 : decode cX0_bestPaint 6 = .ok (.iconst 0, 1) := by decide +kernel
theorem dX0_bestPaint_7 : decode cX0_bestPaint 7 = .ok (.istore_n 3, 1) := by decide +kernel
theorem dX0_bestPaint_8 : decode cX0_bestPaint 8 = .ok (.iload_n 3, 1) := by decide +kernel
theorem dX0_bestPaint_9 : decode cX0_bestPaint 9 = .ok (.sipush 160, 3) := by decide +kernel
theorem dX0_bestPaint_12 : decode cX0_bestPaint 12 = .ok (.if_icmp .ge 65, 3) := by decide +kernel
theorem dX0_bestPaint_15 : decode cX0_bestPaint 15 = .ok (.iload_n 3, 1) := by decide +kernel
theorem dX0_bestPaint_16 : decode cX0_bestPaint 16 = .ok (.bipush 8, 2) := by decide +kernel
theorem dX0_bestPaint_18 : decode cX0_bestPaint 18 = .ok (.idiv, 1) := by decide +kernel
theorem dX0_bestPaint_19 : decode cX0_bestPaint 19 = .ok (.istore 4, 2) := by decide +kernel
theorem dX0_bestPaint_21 : decode cX0_bestPaint 21 = .ok (.iload_n 3, 1) := by decide +kernel
theorem dX0_bestPaint_22 : decode cX0_bestPaint 22 = .ok (.bipush 8, 2) := by decide +kernel
theorem dX0_bestPaint_24 : decode cX0_bestPaint 24 = .ok (.irem, 1) := by decide +kernel
theorem dX0_bestPaint_25 : decode cX0_bestPaint 25 = .ok (.istore 5, 2) := by decide +kernel
theorem dX0_bestPaint_27 : decode cX0_bestPaint 27 = .ok (.aload_n 0, 1) := by decide +kernel
theorem dX0_bestPaint_28 : decode cX0_bestPaint 28 = .ok (.iload 4, 2) := by decide +kernel
theorem dX0_bestPaint_30 : decode cX0_bestPaint 30 = .ok (.invokevirtual 9, 3) := by decide +kernel
theorem dX0_bestPaint_33 : decode cX0_bestPaint 33 = .ok (.ifCond .eq 38, 3) := by decide +kernel
theorem dX0_bestPaint_36 : decode cX0_bestPaint 36 = .ok (.aload_n 0, 1) := by decide +kernel
theorem dX0_bestPaint_37 : decode cX0_bestPaint 37 = .ok (.iload 4, 2) := by decide +kernel
theorem dX0_bestPaint_39 : decode cX0_bestPaint 39 = .ok (.invokevirtual 15, 3) := by decide +kernel
theorem dX0_bestPaint_42 : decode cX0_bestPaint 42 = .ok (.iload 5, 2) := by decide +kernel
theorem dX0_bestPaint_44 : decode cX0_bestPaint 44 = .ok (.if_icmp .ne 6, 3) := by decide +kernel
theorem dX0_bestPaint_47 : decode cX0_bestPaint 47 = .ok (.goto 24, 3) := by decide +kernel
theorem dX0_bestPaint_50 : decode cX0_bestPaint 50 = .ok (.aload_n 0, 1) := by decide +kernel
theorem dX0_bestPaint_51 : decode cX0_bestPaint 51 = .ok (.iload 4, 2) := by decide +kernel
theorem dX0_bestPaint_53 : decode cX0_bestPaint 53 = .ok (.iload 5, 2) := by decide +kernel
theorem dX0_bestPaint_55 : decode cX0_bestPaint 55 = .ok (.invokestatic 29, 3) := by decide +kernel
theorem dX0_bestPaint_58 : decode cX0_bestPaint 58 = .ok (.istore 6, 2) := by decide +kernel
theorem dX0_bestPaint_60 : decode cX0_bestPaint 60 = .ok (.iload 6, 2) := by decide +kernel
theorem dX0_bestPaint_62 : decode cX0_bestPaint 62 = .ok (.iload_n 2, 1) := by decide +kernel
theorem dX0_bestPaint_63 : decode cX0_bestPaint 63 = .ok (.if_icmp .ge 8, 3) := by decide +kernel
theorem dX0_bestPaint_66 : decode cX0_bestPaint 66 = .ok (.iload 6, 2) := by decide +kernel
theorem dX0_bestPaint_68 : decode cX0_bestPaint 68 = .ok (.istore_n 2, 1) := by decide +kernel
theorem dX0_bestPaint_69 : decode cX0_bestPaint 69 = .ok (.iload_n 3, 1) := by decide +kernel
theorem dX0_bestPaint_70 : decode cX0_bestPaint 70 = .ok (.istore_n 1, 1) := by decide +kernel
theorem dX0_bestPaint_71 : decode cX0_bestPaint 71 = .ok (.iinc 3 1, 3) := by decide +kernel
theorem dX0_bestPaint_74 : decode cX0_bestPaint 74 = .ok (.goto (-66), 3) := by decide +kernel
theorem dX0_bestPaint_77 : decode cX0_bestPaint 77 = .ok (.iload_n 1, 1) := by decide +kernel
theorem dX0_bestPaint_78 : decode cX0_bestPaint 78 = .ok (.ireturn, 1) := by decide +kernel
theorem dX0_addedBy_0 : decode cX0_addedBy 0 = .ok (.aload_n 0, 1) := by decide +kernel
theorem dX0_addedBy_1 : decode cX0_addedBy 1 = .ok (.iload_n 1, 1) := by decide +kernel
theorem dX0_addedBy_2 : decode cX0_addedBy 2 = .ok (.iload_n 2, 1) := by decide +kernel
theorem dX0_addedBy_3 : decode cX0_addedBy 3 = .ok (.invokestatic 19, 3) := by decide +kernel
theorem dX0_addedBy_6 : decode cX0_addedBy 6 = .ok (.aload_n 0, 1) := by decide +kernel
theorem dX0_addedBy_7 : decode cX0_addedBy 7 = .ok (.iload_n 1, 1) := by decide +kernel
theorem dX0_addedBy_8 : decode cX0_addedBy 8 = .ok (.aload_n 0, 1) := by decide +kernel
theorem dX0_addedBy_9 : decode cX0_addedBy 9 = .ok (.iload_n 1, 1) := by decide +kernel
theorem dX0_addedBy_10 : decode cX0_addedBy 10 = .ok (.invokevirtual 15, 3) := by decide +kernel
theorem dX0_addedBy_13 : decode cX0_addedBy 13 = .ok (.invokestatic 19, 3) := by decide +kernel
theorem dX0_addedBy_16 : decode cX0_addedBy 16 = .ok (.isub, 1) := by decide +kernel
theorem dX0_addedBy_17 : decode cX0_addedBy 17 = .ok (.ireturn, 1) := by decide +kernel
theorem dX0_unlikeBeside_0 : decode cX0_unlikeBeside 0 = .ok (.iload_n 1, 1) := by decide +kernel
theorem dX0_unlikeBeside_1 : decode cX0_unlikeBeside 1 = .ok (.iconst 4, 1) := by decide +kernel
theorem dX0_unlikeBeside_2 : decode cX0_unlikeBeside 2 = .ok (.idiv, 1) := by decide +kernel
theorem dX0_unlikeBeside_3 : decode cX0_unlikeBeside 3 = .ok (.istore_n 3, 1) := by decide +kernel
theorem dX0_unlikeBeside_4 : decode cX0_unlikeBeside 4 = .ok (.iload_n 1, 1) := by decide +kernel
theorem dX0_unlikeBeside_5 : decode cX0_unlikeBeside 5 = .ok (.iconst 4, 1) := by decide +kernel
theorem dX0_unlikeBeside_6 : decode cX0_unlikeBeside 6 = .ok (.irem, 1) := by decide +kernel
theorem dX0_unlikeBeside_7 : decode cX0_unlikeBeside 7 = .ok (.istore 4, 2) := by decide +kernel
theorem dX0_unlikeBeside_9 : decode cX0_unlikeBeside 9 = .ok (.aload_n 0, 1) := by decide +kernel
theorem dX0_unlikeBeside_10 : decode cX0_unlikeBeside 10 = .ok (.aload_n 0, 1) := by decide +kernel
theorem dX0_unlikeBeside_11 : decode cX0_unlikeBeside 11 = .ok (.iload_n 3, 1) := by decide +kernel
theorem dX0_unlikeBeside_12 : decode cX0_unlikeBeside 12 = .ok (.iconst 1, 1) := by decide +kernel
theorem dX0_unlikeBeside_13 : decode cX0_unlikeBeside 13 = .ok (.isub, 1) := by decide +kernel
theorem dX0_unlikeBeside_14 : decode cX0_unlikeBeside 14 = .ok (.iload 4, 2) := by decide +kernel
theorem dX0_unlikeBeside_16 : decode cX0_unlikeBeside 16 = .ok (.invokevirtual 32, 3) := by decide +kernel
theorem dX0_unlikeBeside_19 : decode cX0_unlikeBeside 19 = .ok (.iload_n 2, 1) := by decide +kernel
theorem dX0_unlikeBeside_20 : decode cX0_unlikeBeside 20 = .ok (.invokestatic 36, 3) := by decide +kernel
theorem dX0_unlikeBeside_23 : decode cX0_unlikeBeside 23 = .ok (.aload_n 0, 1) := by decide +kernel
theorem dX0_unlikeBeside_24 : decode cX0_unlikeBeside 24 = .ok (.aload_n 0, 1) := by decide +kernel
theorem dX0_unlikeBeside_25 : decode cX0_unlikeBeside 25 = .ok (.iload_n 3, 1) := by decide +kernel
theorem dX0_unlikeBeside_26 : decode cX0_unlikeBeside 26 = .ok (.iconst 1, 1) := by decide +kernel
theorem dX0_unlikeBeside_27 : decode cX0_unlikeBeside 27 = .ok (.iadd, 1) := by decide +kernel
theorem dX0_unlikeBeside_28 : decode cX0_unlikeBeside 28 = .ok (.iload 4, 2) := by decide +kernel
theorem dX0_unlikeBeside_30 : decode cX0_unlikeBeside 30 = .ok (.invokevirtual 32, 3) := by decide +kernel
theorem dX0_unlikeBeside_33 : decode cX0_unlikeBeside 33 = .ok (.iload_n 2, 1) := by decide +kernel
theorem dX0_unlikeBeside_34 : decode cX0_unlikeBeside 34 = .ok (.invokestatic 36, 3) := by decide +kernel
theorem dX0_unlikeBeside_37 : decode cX0_unlikeBeside 37 = .ok (.iadd, 1) := by decide +kernel
theorem dX0_unlikeBeside_38 : decode cX0_unlikeBeside 38 = .ok (.aload_n 0, 1) := by decide +kernel
theorem dX0_unlikeBeside_39 : decode cX0_unlikeBeside 39 = .ok (.aload_n 0, 1) := by decide +kernel
theorem dX0_unlikeBeside_40 : decode cX0_unlikeBeside 40 = .ok (.iload_n 3, 1) := by decide +kernel
theorem dX0_unlikeBeside_41 : decode cX0_unlikeBeside 41 = .ok (.iload 4, 2) := by decide +kernel
theorem dX0_unlikeBeside_43 : decode cX0_unlikeBeside 43 = .ok (.iconst 1, 1) := by decide +kernel
theorem dX0_unlikeBeside_44 : decode cX0_unlikeBeside 44 = .ok (.isub, 1) := by decide +kernel
theorem dX0_unlikeBeside_45 : decode cX0_unlikeBeside 45 = .ok (.invokevirtual 32, 3) := by decide +kernel
theorem dX0_unlikeBeside_48 : decode cX0_unlikeBeside 48 = .ok (.iload_n 2, 1) := by decide +kernel
theorem dX0_unlikeBeside_49 : decode cX0_unlikeBeside 49 = .ok (.invokestatic 36, 3) := by decide +kernel
theorem dX0_unlikeBeside_52 : decode cX0_unlikeBeside 52 = .ok (.iadd, 1) := by decide +kernel
theorem dX0_unlikeBeside_53 : decode cX0_unlikeBeside 53 = .ok (.aload_n 0, 1) := by decide +kernel
theorem dX0_unlikeBeside_54 : decode cX0_unlikeBeside 54 = .ok (.aload_n 0, 1) := by decide +kernel
theorem dX0_unlikeBeside_55 : decode cX0_unlikeBeside 55 = .ok (.iload_n 3, 1) := by decide +kernel
theorem dX0_unlikeBeside_56 : decode cX0_unlikeBeside 56 = .ok (.iload 4, 2) := by decide +kernel
theorem dX0_unlikeBeside_58 : decode cX0_unlikeBeside 58 = .ok (.iconst 1, 1) := by decide +kernel
theorem dX0_unlikeBeside_59 : decode cX0_unlikeBeside 59 = .ok (.iadd, 1) := by decide +kernel
theorem dX0_unlikeBeside_60 : decode cX0_unlikeBeside 60 = .ok (.invokevirtual 32, 3) := by decide +kernel
theorem dX0_unlikeBeside_63 : decode cX0_unlikeBeside 63 = .ok (.iload_n 2, 1) := by decide +kernel
theorem dX0_unlikeBeside_64 : decode cX0_unlikeBeside 64 = .ok (.invokestatic 36, 3) := by decide +kernel
theorem dX0_unlikeBeside_67 : decode cX0_unlikeBeside 67 = .ok (.iadd, 1) := by decide +kernel
theorem dX0_unlikeBeside_68 : decode cX0_unlikeBeside 68 = .ok (.ireturn, 1) := by decide +kernel
theorem dX0_unlike_0 : decode cX0_unlike 0 = .ok (.iload_n 1, 1) := by decide +kernel
theorem dX0_unlike_1 : decode cX0_unlike 1 = .ok (.iconst (-1), 1) := by decide +kernel
theorem dX0_unlike_2 : decode cX0_unlike 2 = .ok (.if_icmp .eq 16, 3) := by decide +kernel
theorem dX0_unlike_5 : decode cX0_unlike 5 = .ok (.aload_n 0, 1) := by decide +kernel
theorem dX0_unlike_6 : decode cX0_unlike 6 = .ok (.iload_n 1, 1) := by decide +kernel
theorem dX0_unlike_7 : decode cX0_unlike 7 = .ok (.invokevirtual 15, 3) := by decide +kernel
theorem dX0_unlike_10 : decode cX0_unlike 10 = .ok (.iload_n 2, 1) := by decide +kernel
theorem dX0_unlike_11 : decode cX0_unlike 11 = .ok (.if_icmp .eq 7, 3) := by decide +kernel
theorem dX0_unlike_14 : decode cX0_unlike 14 = .ok (.iconst 1, 1) := by decide +kernel
theorem dX0_unlike_15 : decode cX0_unlike 15 = .ok (.goto 4, 3) := by decide +kernel
theorem dX0_unlike_18 : decode cX0_unlike 18 = .ok (.iconst 0, 1) := by decide +kernel
theorem dX0_unlike_19 : decode cX0_unlike 19 = .ok (.ireturn, 1) := by decide +kernel
theorem dX0_parts_0 : decode cX0_parts 0 = .ok (.iconst 0, 1) := by decide +kernel
theorem dX0_parts_1 : decode cX0_parts 1 = .ok (.istore_n 1, 1) := by decide +kernel
theorem dX0_parts_2 : decode cX0_parts 2 = .ok (.iconst 0, 1) := by decide +kernel
theorem dX0_parts_3 : decode cX0_parts 3 = .ok (.istore_n 2, 1) := by decide +kernel
theorem dX0_parts_4 : decode cX0_parts 4 = .ok (.iload_n 2, 1) := by decide +kernel
theorem dX0_parts_5 : decode cX0_parts 5 = .ok (.bipush 20, 2) := by decide +kernel
theorem dX0_parts_7 : decode cX0_parts 7 = .ok (.if_icmp .ge 34, 3) := by decide +kernel
theorem dX0_parts_10 : decode cX0_parts 10 = .ok (.aload_n 0, 1) := by decide +kernel
theorem dX0_parts_11 : decode cX0_parts 11 = .ok (.iload_n 2, 1) := by decide +kernel
theorem dX0_parts_12 : decode cX0_parts 12 = .ok (.invokevirtual 9, 3) := by decide +kernel
theorem dX0_parts_15 : decode cX0_parts 15 = .ok (.ifCond .eq 20, 3) := by decide +kernel
theorem dX0_parts_18 : decode cX0_parts 18 = .ok (.aload_n 0, 1) := by decide +kernel
theorem dX0_parts_19 : decode cX0_parts 19 = .ok (.iload_n 2, 1) := by decide +kernel
theorem dX0_parts_20 : decode cX0_parts 20 = .ok (.invokestatic 39, 3) := by decide +kernel
theorem dX0_parts_23 : decode cX0_parts 23 = .ok (.iconst 1, 1) := by decide +kernel
theorem dX0_parts_24 : decode cX0_parts 24 = .ok (.iload_n 2, 1) := by decide +kernel
theorem dX0_parts_25 : decode cX0_parts 25 = .ok (.ishl, 1) := by decide +kernel
theorem dX0_parts_26 : decode cX0_parts 26 = .ok (.iconst 1, 1) := by decide +kernel
theorem dX0_parts_27 : decode cX0_parts 27 = .ok (.isub, 1) := by decide +kernel
theorem dX0_parts_28 : decode cX0_parts 28 = .ok (.iand, 1) := by decide +kernel
theorem dX0_parts_29 : decode cX0_parts 29 = .ok (.ifCond .ne 6, 3) := by decide +kernel
theorem dX0_parts_32 : decode cX0_parts 32 = .ok (.iinc 1 1, 3) := by decide +kernel
theorem dX0_parts_35 : decode cX0_parts 35 = .ok (.iinc 2 1, 3) := by decide +kernel
theorem dX0_parts_38 : decode cX0_parts 38 = .ok (.goto (-34), 3) := by decide +kernel
theorem dX0_parts_41 : decode cX0_parts 41 = .ok (.iload_n 1, 1) := by decide +kernel
theorem dX0_parts_42 : decode cX0_parts 42 = .ok (.ireturn, 1) := by decide +kernel
theorem dX0_greatestPart_0 : decode cX0_greatestPart 0 = .ok (.iconst 0, 1) := by decide +kernel
theorem dX0_greatestPart_1 : decode cX0_greatestPart 1 = .ok (.istore_n 1, 1) := by decide +kernel
theorem dX0_greatestPart_2 : decode cX0_greatestPart 2 = .ok (.iconst 0, 1) := by decide +kernel
theorem dX0_greatestPart_3 : decode cX0_greatestPart 3 = .ok (.istore_n 2, 1) := by decide +kernel
theorem dX0_greatestPart_4 : decode cX0_greatestPart 4 = .ok (.iload_n 2, 1) := by decide +kernel
theorem dX0_greatestPart_5 : decode cX0_greatestPart 5 = .ok (.bipush 20, 2) := by decide +kernel
theorem dX0_greatestPart_7 : decode cX0_greatestPart 7 = .ok (.if_icmp .ge 30, 3) := by decide +kernel
theorem dX0_greatestPart_10 : decode cX0_greatestPart 10 = .ok (.aload_n 0, 1) := by decide +kernel
theorem dX0_greatestPart_11 : decode cX0_greatestPart 11 = .ok (.iload_n 2, 1) := by decide +kernel
theorem dX0_greatestPart_12 : decode cX0_greatestPart 12 = .ok (.invokevirtual 9, 3) := by decide +kernel
theorem dX0_greatestPart_15 : decode cX0_greatestPart 15 = .ok (.ifCond .eq 16, 3) := by decide +kernel
theorem dX0_greatestPart_18 : decode cX0_greatestPart 18 = .ok (.iload_n 1, 1) := by decide +kernel
theorem dX0_greatestPart_19 : decode cX0_greatestPart 19 = .ok (.aload_n 0, 1) := by decide +kernel
theorem dX0_greatestPart_20 : decode cX0_greatestPart 20 = .ok (.iload_n 2, 1) := by decide +kernel
theorem dX0_greatestPart_21 : decode cX0_greatestPart 21 = .ok (.invokestatic 39, 3) := by decide +kernel
theorem dX0_greatestPart_24 : decode cX0_greatestPart 24 = .ok (.invokestatic 43, 3) := by decide +kernel
theorem dX0_greatestPart_27 : decode cX0_greatestPart 27 = .ok (.invokestatic 48, 3) := by decide +kernel
theorem dX0_greatestPart_30 : decode cX0_greatestPart 30 = .ok (.istore_n 1, 1) := by decide +kernel
theorem dX0_greatestPart_31 : decode cX0_greatestPart 31 = .ok (.iinc 2 1, 3) := by decide +kernel
theorem dX0_greatestPart_34 : decode cX0_greatestPart 34 = .ok (.goto (-30), 3) := by decide +kernel
theorem dX0_greatestPart_37 : decode cX0_greatestPart 37 = .ok (.iload_n 1, 1) := by decide +kernel
theorem dX0_greatestPart_38 : decode cX0_greatestPart 38 = .ok (.ireturn, 1) := by decide +kernel
theorem dX0_partOf_0 : decode cX0_partOf 0 = .ok (.aload_n 0, 1) := by decide +kernel
theorem dX0_partOf_1 : decode cX0_partOf 1 = .ok (.aload_n 0, 1) := by decide +kernel
theorem dX0_partOf_2 : decode cX0_partOf 2 = .ok (.iload_n 1, 1) := by decide +kernel
theorem dX0_partOf_3 : decode cX0_partOf 3 = .ok (.invokevirtual 15, 3) := by decide +kernel
theorem dX0_partOf_6 : decode cX0_partOf 6 = .ok (.invokestatic 53, 3) := by decide +kernel
theorem dX0_partOf_9 : decode cX0_partOf 9 = .ok (.istore_n 2, 1) := by decide +kernel
theorem dX0_partOf_10 : decode cX0_partOf 10 = .ok (.iconst 1, 1) := by decide +kernel
theorem dX0_partOf_11 : decode cX0_partOf 11 = .ok (.iload_n 1, 1) := by decide +kernel
theorem dX0_partOf_12 : decode cX0_partOf 12 = .ok (.ishl, 1) := by decide +kernel
theorem dX0_partOf_13 : decode cX0_partOf 13 = .ok (.istore_n 3, 1) := by decide +kernel
theorem dX0_partOf_14 : decode cX0_partOf 14 = .ok (.iconst 1, 1) := by decide +kernel
theorem dX0_partOf_15 : decode cX0_partOf 15 = .ok (.istore 4, 2) := by decide +kernel
theorem dX0_partOf_17 : decode cX0_partOf 17 = .ok (.iload 4, 2) := by decide +kernel
theorem dX0_partOf_19 : decode cX0_partOf 19 = .ok (.bipush 20, 2) := by decide +kernel
theorem dX0_partOf_21 : decode cX0_partOf 21 = .ok (.if_icmp .ge 18, 3) := by decide +kernel
theorem dX0_partOf_24 : decode cX0_partOf 24 = .ok (.iload_n 3, 1) := by decide +kernel
theorem dX0_partOf_25 : decode cX0_partOf 25 = .ok (.iload_n 3, 1) := by decide +kernel
theorem dX0_partOf_26 : decode cX0_partOf 26 = .ok (.invokestatic 56, 3) := by decide +kernel
theorem dX0_partOf_29 : decode cX0_partOf 29 = .ok (.ior, 1) := by decide +kernel
theorem dX0_partOf_30 : decode cX0_partOf 30 = .ok (.iload_n 2, 1) := by decide +kernel
theorem dX0_partOf_31 : decode cX0_partOf 31 = .ok (.iand, 1) := by decide +kernel
theorem dX0_partOf_32 : decode cX0_partOf 32 = .ok (.istore_n 3, 1) := by decide +kernel
theorem dX0_partOf_33 : decode cX0_partOf 33 = .ok (.iinc 4 1, 3) := by decide +kernel
theorem dX0_partOf_36 : decode cX0_partOf 36 = .ok (.goto (-19), 3) := by decide +kernel
theorem dX0_partOf_39 : decode cX0_partOf 39 = .ok (.iload_n 3, 1) := by decide +kernel
theorem dX0_partOf_40 : decode cX0_partOf 40 = .ok (.ireturn, 1) := by decide +kernel
theorem dX0_panesOf_0 : decode cX0_panesOf 0 = .ok (.iconst 0, 1) := by decide +kernel
theorem dX0_panesOf_1 : decode cX0_panesOf 1 = .ok (.istore_n 2, 1) := by decide +kernel
theorem dX0_panesOf_2 : decode cX0_panesOf 2 = .ok (.iconst 0, 1) := by decide +kernel
theorem dX0_panesOf_3 : decode cX0_panesOf 3 = .ok (.istore_n 3, 1) := by decide +kernel
theorem dX0_panesOf_4 : decode cX0_panesOf 4 = .ok (.iload_n 3, 1) := by decide +kernel
theorem dX0_panesOf_5 : decode cX0_panesOf 5 = .ok (.bipush 20, 2) := by decide +kernel
theorem dX0_panesOf_7 : decode cX0_panesOf 7 = .ok (.if_icmp .ge 32, 3) := by decide +kernel
theorem dX0_panesOf_10 : decode cX0_panesOf 10 = .ok (.aload_n 0, 1) := by decide +kernel
theorem dX0_panesOf_11 : decode cX0_panesOf 11 = .ok (.iload_n 3, 1) := by decide +kernel
theorem dX0_panesOf_12 : decode cX0_panesOf 12 = .ok (.invokevirtual 9, 3) := by decide +kernel
theorem dX0_panesOf_15 : decode cX0_panesOf 15 = .ok (.ifCond .eq 18, 3) := by decide +kernel
theorem dX0_panesOf_18 : decode cX0_panesOf 18 = .ok (.aload_n 0, 1) := by decide +kernel
theorem dX0_panesOf_19 : decode cX0_panesOf 19 = .ok (.iload_n 3, 1) := by decide +kernel
theorem dX0_panesOf_20 : decode cX0_panesOf 20 = .ok (.invokevirtual 15, 3) := by decide +kernel
theorem dX0_panesOf_23 : decode cX0_panesOf 23 = .ok (.iload_n 1, 1) := by decide +kernel
theorem dX0_panesOf_24 : decode cX0_panesOf 24 = .ok (.if_icmp .ne 9, 3) := by decide +kernel
theorem dX0_panesOf_27 : decode cX0_panesOf 27 = .ok (.iload_n 2, 1) := by decide +kernel
theorem dX0_panesOf_28 : decode cX0_panesOf 28 = .ok (.iconst 1, 1) := by decide +kernel
theorem dX0_panesOf_29 : decode cX0_panesOf 29 = .ok (.iload_n 3, 1) := by decide +kernel
theorem dX0_panesOf_30 : decode cX0_panesOf 30 = .ok (.ishl, 1) := by decide +kernel
theorem dX0_panesOf_31 : decode cX0_panesOf 31 = .ok (.ior, 1) := by decide +kernel
theorem dX0_panesOf_32 : decode cX0_panesOf 32 = .ok (.istore_n 2, 1) := by decide +kernel
theorem dX0_panesOf_33 : decode cX0_panesOf 33 = .ok (.iinc 3 1, 3) := by decide +kernel
theorem dX0_panesOf_36 : decode cX0_panesOf 36 = .ok (.goto (-32), 3) := by decide +kernel
theorem dX0_panesOf_39 : decode cX0_panesOf 39 = .ok (.iload_n 2, 1) := by decide +kernel
theorem dX0_panesOf_40 : decode cX0_panesOf 40 = .ok (.ireturn, 1) := by decide +kernel
theorem dX0_beside_0 : decode cX0_beside 0 = .ok (.iload_n 0, 1) := by decide +kernel
theorem dX0_beside_1 : decode cX0_beside 1 = .ok (.iconst 4, 1) := by decide +kernel
theorem dX0_beside_2 : decode cX0_beside 2 = .ok (.ishl, 1) := by decide +kernel
theorem dX0_beside_3 : decode cX0_beside 3 = .ok (.iload_n 0, 1) := by decide +kernel
theorem dX0_beside_4 : decode cX0_beside 4 = .ok (.iconst 4, 1) := by decide +kernel
theorem dX0_beside_5 : decode cX0_beside 5 = .ok (.ishr, 1) := by decide +kernel
theorem dX0_beside_6 : decode cX0_beside 6 = .ok (.ior, 1) := by decide +kernel
theorem dX0_beside_7 : decode cX0_beside 7 = .ok (.istore_n 1, 1) := by decide +kernel
theorem dX0_beside_8 : decode cX0_beside 8 = .ok (.iload_n 0, 1) := by decide +kernel
theorem dX0_beside_9 : decode cX0_beside 9 = .ok (.ldc 59, 2) := by decide +kernel
theorem dX0_beside_11 : decode cX0_beside 11 = .ok (.iand, 1) := by decide +kernel
theorem dX0_beside_12 : decode cX0_beside 12 = .ok (.iconst 1, 1) := by decide +kernel
theorem dX0_beside_13 : decode cX0_beside 13 = .ok (.ishl, 1) := by decide +kernel
theorem dX0_beside_14 : decode cX0_beside 14 = .ok (.iload_n 0, 1) := by decide +kernel
theorem dX0_beside_15 : decode cX0_beside 15 = .ok (.ldc 60, 2) := by decide +kernel
theorem dX0_beside_17 : decode cX0_beside 17 = .ok (.iand, 1) := by decide +kernel
theorem dX0_beside_18 : decode cX0_beside 18 = .ok (.iconst 1, 1) := by decide +kernel
theorem dX0_beside_19 : decode cX0_beside 19 = .ok (.ishr, 1) := by decide +kernel
theorem dX0_beside_20 : decode cX0_beside 20 = .ok (.ior, 1) := by decide +kernel
theorem dX0_beside_21 : decode cX0_beside 21 = .ok (.istore_n 2, 1) := by decide +kernel
theorem dX0_beside_22 : decode cX0_beside 22 = .ok (.iload_n 1, 1) := by decide +kernel
theorem dX0_beside_23 : decode cX0_beside 23 = .ok (.iload_n 2, 1) := by decide +kernel
theorem dX0_beside_24 : decode cX0_beside 24 = .ok (.ior, 1) := by decide +kernel
theorem dX0_beside_25 : decode cX0_beside 25 = .ok (.ireturn, 1) := by decide +kernel
theorem dX1_init_0 : decode cX1_init 0 = .ok (.aload_n 0, 1) := by decide +kernel
theorem dX1_init_1 : decode cX1_init 1 = .ok (.invokespecial 1, 3) := by decide +kernel
theorem dX1_init_4 : decode cX1_init 4 = .ok (.return_, 1) := by decide +kernel
theorem dX1_seek_0 : decode cX1_seek 0 = .ok (.aload_n 1, 1) := by decide +kernel
theorem dX1_seek_1 : decode cX1_seek 1 = .ok (.iload_n 2, 1) := by decide +kernel
theorem dX1_seek_2 : decode cX1_seek 2 = .ok (.iload_n 3, 1) := by decide +kernel
theorem dX1_seek_3 : decode cX1_seek 3 = .ok (.invokevirtual 7, 3) := by decide +kernel
theorem dX1_seek_6 : decode cX1_seek 6 = .ok (.istore 5, 2) := by decide +kernel
theorem dX1_seek_8 : decode cX1_seek 8 = .ok (.aload_n 1, 1) := by decide +kernel
theorem dX1_seek_9 : decode cX1_seek 9 = .ok (.iload_n 2, 1) := by decide +kernel
theorem dX1_seek_10 : decode cX1_seek 10 = .ok (.iload_n 3, 1) := by decide +kernel
theorem dX1_seek_11 : decode cX1_seek 11 = .ok (.invokevirtual 13, 3) := by decide +kernel
theorem dX1_seek_14 : decode cX1_seek 14 = .ok (.istore 6, 2) := by decide +kernel
theorem dX1_seek_16 : decode cX1_seek 16 = .ok (.aload_n 1, 1) := by decide +kernel
theorem dX1_seek_17 : decode cX1_seek 17 = .ok (.iload 5, 2) := by decide +kernel
theorem dX1_seek_19 : decode cX1_seek 19 = .ok (.invokevirtual 16, 3) := by decide +kernel
theorem dX1_seek_22 : decode cX1_seek 22 = .ok (.istore 7, 2) := by decide +kernel
theorem dX1_seek_24 : decode cX1_seek 24 = .ok (.aload_n 1, 1) := by decide +kernel
theorem dX1_seek_25 : decode cX1_seek 25 = .ok (.invokevirtual 20, 3) := by decide +kernel
theorem dX1_seek_28 : decode cX1_seek 28 = .ok (.istore 8, 2) := by decide +kernel
theorem dX1_seek_30 : decode cX1_seek 30 = .ok (.aload_n 0, 1) := by decide +kernel
theorem dX1_seek_31 : decode cX1_seek 31 = .ok (.iconst 0, 1) := by decide +kernel
theorem dX1_seek_32 : decode cX1_seek 32 = .ok (.putfield 24, 3) := by decide +kernel
theorem dX1_seek_35 : decode cX1_seek 35 = .ok (.iconst 0, 1) := by decide +kernel
theorem dX1_seek_36 : decode cX1_seek 36 = .ok (.istore 9, 2) := by decide +kernel
theorem dX1_seek_38 : decode cX1_seek 38 = .ok (.iload 9, 2) := by decide +kernel
theorem dX1_seek_40 : decode cX1_seek 40 = .ok (.iload 8, 2) := by decide +kernel
theorem dX1_seek_42 : decode cX1_seek 42 = .ok (.if_icmp .gt 61, 3) := by decide +kernel
theorem dX1_seek_45 : decode cX1_seek 45 = .ok (.iload 9, 2) := by decide +kernel
theorem dX1_seek_47 : decode cX1_seek 47 = .ok (.iload 8, 2) := by decide +kernel
theorem dX1_seek_49 : decode cX1_seek 49 = .ok (.iconst (-1), 1) := by decide +kernel
theorem dX1_seek_50 : decode cX1_seek 50 = .ok (.ixor, 1) := by decide +kernel
theorem dX1_seek_51 : decode cX1_seek 51 = .ok (.iand, 1) := by decide +kernel
theorem dX1_seek_52 : decode cX1_seek 52 = .ok (.ifCond .ne 45, 3) := by decide +kernel
theorem dX1_seek_55 : decode cX1_seek 55 = .ok (.iload 9, 2) := by decide +kernel
theorem dX1_seek_57 : decode cX1_seek 57 = .ok (.invokestatic 30, 3) := by decide +kernel
theorem dX1_seek_60 : decode cX1_seek 60 = .ok (.iload 7, 2) := by decide +kernel
theorem dX1_seek_62 : decode cX1_seek 62 = .ok (.if_icmp .gt 35, 3) := by decide +kernel
theorem dX1_seek_65 : decode cX1_seek 65 = .ok (.aload_n 1, 1) := by decide +kernel
theorem dX1_seek_66 : decode cX1_seek 66 = .ok (.iload 5, 2) := by decide +kernel
theorem dX1_seek_68 : decode cX1_seek 68 = .ok (.invokevirtual 35, 3) := by decide +kernel
theorem dX1_seek_71 : decode cX1_seek 71 = .ok (.aload_n 1, 1) := by decide +kernel
theorem dX1_seek_72 : decode cX1_seek 72 = .ok (.getfield 38, 3) := by decide +kernel
theorem dX1_seek_75 : decode cX1_seek 75 = .ok (.getfield 42, 3) := by decide +kernel
theorem dX1_seek_78 : decode cX1_seek 78 = .ok (.iload 9, 2) := by decide +kernel
theorem dX1_seek_80 : decode cX1_seek 80 = .ok (.iaload, 1) := by decide +kernel
theorem dX1_seek_81 : decode cX1_seek 81 = .ok (.iand, 1) := by decide +kernel
theorem dX1_seek_82 : decode cX1_seek 82 = .ok (.istore 10, 2) := by decide +kernel
theorem dX1_seek_84 : decode cX1_seek 84 = .ok (.aload_n 0, 1) := by decide +kernel
theorem dX1_seek_85 : decode cX1_seek 85 = .ok (.aload_n 1, 1) := by decide +kernel
theorem dX1_seek_86 : decode cX1_seek 86 = .ok (.iload 6, 2) := by decide +kernel
theorem dX1_seek_88 : decode cX1_seek 88 = .ok (.iload 9, 2) := by decide +kernel
theorem dX1_seek_90 : decode cX1_seek 90 = .ok (.iload 10, 2) := by decide +kernel
theorem dX1_seek_92 : decode cX1_seek 92 = .ok (.iload 4, 2) := by decide +kernel
theorem dX1_seek_94 : decode cX1_seek 94 = .ok (.invokevirtual 48, 3) := by decide +kernel
theorem dX1_seek_97 : decode cX1_seek 97 = .ok (.iinc 9 1, 3) := by decide +kernel
theorem dX1_seek_100 : decode cX1_seek 100 = .ok (.goto (-62), 3) := by decide +kernel
theorem dX1_seek_103 : decode cX1_seek 103 = .ok (.return_, 1) := by decide +kernel
theorem dX1_seekLatter_0 : decode cX1_seekLatter 0 = .ok (.aload_n 1, 1) := by decide +kernel
theorem dX1_seekLatter_1 : decode cX1_seekLatter 1 = .ok (.invokevirtual 20, 3) := by decide +kernel
theorem dX1_seekLatter_4 : decode cX1_seekLatter 4 = .ok (.iload_n 3, 1) := by decide +kernel
theorem dX1_seekLatter_5 : decode cX1_seekLatter 5 = .ok (.iconst (-1), 1) := by decide +kernel
theorem dX1_seekLatter_6 : decode cX1_seekLatter 6 = .ok (.ixor, 1) := by decide +kernel
theorem dX1_seekLatter_7 : decode cX1_seekLatter 7 = .ok (.iand, 1) := by decide +kernel
theorem dX1_seekLatter_8 : decode cX1_seekLatter 8 = .ok (.istore 6, 2) := by decide +kernel
theorem dX1_seekLatter_10 : decode cX1_seekLatter 10 = .ok (.aload_n 1, 1) := by decide +kernel
theorem dX1_seekLatter_11 : decode cX1_seekLatter 11 = .ok (.iload_n 2, 1) := by decide +kernel
theorem dX1_seekLatter_12 : decode cX1_seekLatter 12 = .ok (.invokevirtual 16, 3) := by decide +kernel
theorem dX1_seekLatter_15 : decode cX1_seekLatter 15 = .ok (.istore 7, 2) := by decide +kernel
theorem dX1_seekLatter_17 : decode cX1_seekLatter 17 = .ok (.aload_n 1, 1) := by decide +kernel
theorem dX1_seekLatter_18 : decode cX1_seekLatter 18 = .ok (.iload_n 2, 1) := by decide +kernel
theorem dX1_seekLatter_19 : decode cX1_seekLatter 19 = .ok (.invokevirtual 35, 3) := by decide +kernel
theorem dX1_seekLatter_22 : decode cX1_seekLatter 22 = .ok (.istore 8, 2) := by decide +kernel
theorem dX1_seekLatter_24 : decode cX1_seekLatter 24 = .ok (.iconst 0, 1) := by decide +kernel
theorem dX1_seekLatter_25 : decode cX1_seekLatter 25 = .ok (.istore 9, 2) := by decide +kernel
theorem dX1_seekLatter_27 : decode cX1_seekLatter 27 = .ok (.iconst 1, 1) := by decide +kernel
theorem dX1_seekLatter_28 : decode cX1_seekLatter 28 = .ok (.iload 6, 2) := by decide +kernel
theorem dX1_seekLatter_30 : decode cX1_seekLatter 30 = .ok (.invokestatic 30, 3) := by decide +kernel
theorem dX1_seekLatter_33 : decode cX1_seekLatter 33 = .ok (.ishl, 1) := by decide +kernel
theorem dX1_seekLatter_34 : decode cX1_seekLatter 34 = .ok (.istore 10, 2) := by decide +kernel
theorem dX1_seekLatter_36 : decode cX1_seekLatter 36 = .ok (.iload 10, 2) := by decide +kernel
theorem dX1_seekLatter_38 : decode cX1_seekLatter 38 = .ok (.ifCond .le 61, 3) := by decide +kernel
theorem dX1_seekLatter_41 : decode cX1_seekLatter 41 = .ok (.iload 4, 2) := by decide +kernel
theorem dX1_seekLatter_43 : decode cX1_seekLatter 43 = .ok (.iload 8, 2) := by decide +kernel
theorem dX1_seekLatter_45 : decode cX1_seekLatter 45 = .ok (.aload_n 1, 1) := by decide +kernel
theorem dX1_seekLatter_46 : decode cX1_seekLatter 46 = .ok (.getfield 38, 3) := by decide +kernel
theorem dX1_seekLatter_49 : decode cX1_seekLatter 49 = .ok (.getfield 42, 3) := by decide +kernel
theorem dX1_seekLatter_52 : decode cX1_seekLatter 52 = .ok (.iload 9, 2) := by decide +kernel
theorem dX1_seekLatter_54 : decode cX1_seekLatter 54 = .ok (.iaload, 1) := by decide +kernel
theorem dX1_seekLatter_55 : decode cX1_seekLatter 55 = .ok (.iand, 1) := by decide +kernel
theorem dX1_seekLatter_56 : decode cX1_seekLatter 56 = .ok (.ior, 1) := by decide +kernel
theorem dX1_seekLatter_57 : decode cX1_seekLatter 57 = .ok (.istore 11, 2) := by decide +kernel
theorem dX1_seekLatter_59 : decode cX1_seekLatter 59 = .ok (.iload 11, 2) := by decide +kernel
theorem dX1_seekLatter_61 : decode cX1_seekLatter 61 = .ok (.iload 5, 2) := by decide +kernel
theorem dX1_seekLatter_63 : decode cX1_seekLatter 63 = .ok (.if_icmp .ne 20, 3) := by decide +kernel
theorem dX1_seekLatter_66 : decode cX1_seekLatter 66 = .ok (.iload 9, 2) := by decide +kernel
theorem dX1_seekLatter_68 : decode cX1_seekLatter 68 = .ok (.invokestatic 30, 3) := by decide +kernel
theorem dX1_seekLatter_71 : decode cX1_seekLatter 71 = .ok (.iload 7, 2) := by decide +kernel
theorem dX1_seekLatter_73 : decode cX1_seekLatter 73 = .ok (.if_icmp .gt 10, 3) := by decide +kernel
theorem dX1_seekLatter_76 : decode cX1_seekLatter 76 = .ok (.aload_n 0, 1) := by decide +kernel
theorem dX1_seekLatter_77 : decode cX1_seekLatter 77 = .ok (.iload_n 3, 1) := by decide +kernel
theorem dX1_seekLatter_78 : decode cX1_seekLatter 78 = .ok (.iload 9, 2) := by decide +kernel
theorem dX1_seekLatter_80 : decode cX1_seekLatter 80 = .ok (.invokevirtual 52, 3) := by decide +kernel
theorem dX1_seekLatter_83 : decode cX1_seekLatter 83 = .ok (.iload 9, 2) := by decide +kernel
theorem dX1_seekLatter_85 : decode cX1_seekLatter 85 = .ok (.iload 6, 2) := by decide +kernel
theorem dX1_seekLatter_87 : decode cX1_seekLatter 87 = .ok (.isub, 1) := by decide +kernel
theorem dX1_seekLatter_88 : decode cX1_seekLatter 88 = .ok (.iload 6, 2) := by decide +kernel
theorem dX1_seekLatter_90 : decode cX1_seekLatter 90 = .ok (.iand, 1) := by decide +kernel
theorem dX1_seekLatter_91 : decode cX1_seekLatter 91 = .ok (.istore 9, 2) := by decide +kernel
theorem dX1_seekLatter_93 : decode cX1_seekLatter 93 = .ok (.iinc 10 (-1), 3) := by decide +kernel
theorem dX1_seekLatter_96 : decode cX1_seekLatter 96 = .ok (.goto (-60), 3) := by decide +kernel
theorem dX1_seekLatter_99 : decode cX1_seekLatter 99 = .ok (.return_, 1) := by decide +kernel
theorem dX1_offer_0 : decode cX1_offer 0 = .ok (.iload_n 1, 1) := by decide +kernel
theorem dX1_offer_1 : decode cX1_offer 1 = .ok (.invokestatic 30, 3) := by decide +kernel
theorem dX1_offer_4 : decode cX1_offer 4 = .ok (.iload_n 2, 1) := by decide +kernel
theorem dX1_offer_5 : decode cX1_offer 5 = .ok (.invokestatic 30, 3) := by decide +kernel
theorem dX1_offer_8 : decode cX1_offer 8 = .ok (.iadd, 1) := by decide +kernel
theorem dX1_offer_9 : decode cX1_offer 9 = .ok (.istore_n 3, 1) := by decide +kernel
theorem dX1_offer_10 : decode cX1_offer 10 = .ok (.aload_n 0, 1) := by decide +kernel
theorem dX1_offer_11 : decode cX1_offer 11 = .ok (.getfield 24, 3) := by decide +kernel
theorem dX1_offer_14 : decode cX1_offer 14 = .ok (.ifCond .eq 11, 3) := by decide +kernel
theorem dX1_offer_17 : decode cX1_offer 17 = .ok (.iload_n 3, 1) := by decide +kernel
theorem dX1_offer_18 : decode cX1_offer 18 = .ok (.aload_n 0, 1) := by decide +kernel
theorem dX1_offer_19 : decode cX1_offer 19 = .ok (.getfield 56, 3) := by decide +kernel
theorem dX1_offer_22 : decode cX1_offer 22 = .ok (.if_icmp .ge 23, 3) := by decide +kernel
theorem dX1_offer_25 : decode cX1_offer 25 = .ok (.aload_n 0, 1) := by decide +kernel
theorem dX1_offer_26 : decode cX1_offer 26 = .ok (.iconst 1, 1) := by decide +kernel
theorem dX1_offer_27 : decode cX1_offer 27 = .ok (.putfield 24, 3) := by decide +kernel
theorem dX1_offer_30 : decode cX1_offer 30 = .ok (.aload_n 0, 1) := by decide +kernel
theorem dX1_offer_31 : decode cX1_offer 31 = .ok (.iload_n 3, 1) := by decide +kernel
theorem dX1_offer_32 : decode cX1_offer 32 = .ok (.putfield 56, 3) := by decide +kernel
theorem dX1_offer_35 : decode cX1_offer 35 = .ok (.aload_n 0, 1) := by decide +kernel
theorem dX1_offer_36 : decode cX1_offer 36 = .ok (.iload_n 1, 1) := by decide +kernel
theorem dX1_offer_37 : decode cX1_offer 37 = .ok (.putfield 60, 3) := by decide +kernel
theorem dX1_offer_40 : decode cX1_offer 40 = .ok (.aload_n 0, 1) := by decide +kernel
theorem dX1_offer_41 : decode cX1_offer 41 = .ok (.iload_n 2, 1) := by decide +kernel
theorem dX1_offer_42 : decode cX1_offer 42 = .ok (.putfield 63, 3) := by decide +kernel
theorem dX1_offer_45 : decode cX1_offer 45 = .ok (.return_, 1) := by decide +kernel
theorem dX2_init_0 : decode cX2_init 0 = .ok (.aload_n 0, 1) := by decide +kernel
theorem dX2_init_1 : decode cX2_init 1 = .ok (.invokespecial 3, 3) := by decide +kernel
theorem dX2_init_4 : decode cX2_init 4 = .ok (.aload_n 0, 1) := by decide +kernel
theorem dX2_init_5 : decode cX2_init 5 = .ok (.bipush 20, 2) := by decide +kernel
theorem dX2_init_7 : decode cX2_init 7 = .ok (.newarray .int, 2) := by decide +kernel
theorem dX2_init_9 : decode cX2_init 9 = .ok (.putfield 9, 3) := by decide +kernel
theorem dX2_init_12 : decode cX2_init 12 = .ok (.return_, 1) := by decide +kernel
theorem dX2_become_0 : decode cX2_become 0 = .ok (.aload_n 1, 1) := by decide +kernel
theorem dX2_become_1 : decode cX2_become 1 = .ok (.getfield 9, 3) := by decide +kernel
theorem dX2_become_4 : decode cX2_become 4 = .ok (.iconst 0, 1) := by decide +kernel
theorem dX2_become_5 : decode cX2_become 5 = .ok (.aload_n 0, 1) := by decide +kernel
theorem dX2_become_6 : decode cX2_become 6 = .ok (.getfield 9, 3) := by decide +kernel
theorem dX2_become_9 : decode cX2_become 9 = .ok (.iconst 0, 1) := by decide +kernel
theorem dX2_become_10 : decode cX2_become 10 = .ok (.bipush 20, 2) := by decide +kernel
theorem dX2_become_12 : decode cX2_become 12 = .ok (.invokestatic 15, 3) := by decide +kernel
theorem dX2_become_15 : decode cX2_become 15 = .ok (.aload_n 0, 1) := by decide +kernel
theorem dX2_become_16 : decode cX2_become 16 = .ok (.aload_n 1, 1) := by decide +kernel
theorem dX2_become_17 : decode cX2_become 17 = .ok (.getfield 21, 3) := by decide +kernel
theorem dX2_become_20 : decode cX2_become 20 = .ok (.putfield 21, 3) := by decide +kernel
theorem dX2_become_23 : decode cX2_become 23 = .ok (.aload_n 0, 1) := by decide +kernel
theorem dX2_become_24 : decode cX2_become 24 = .ok (.aload_n 1, 1) := by decide +kernel
theorem dX2_become_25 : decode cX2_become 25 = .ok (.getfield 25, 3) := by decide +kernel
theorem dX2_become_28 : decode cX2_become 28 = .ok (.putfield 25, 3) := by decide +kernel
theorem dX2_become_31 : decode cX2_become 31 = .ok (.aload_n 0, 1) := by decide +kernel
theorem dX2_become_32 : decode cX2_become 32 = .ok (.aload_n 1, 1) := by decide +kernel
theorem dX2_become_33 : decode cX2_become 33 = .ok (.getfield 28, 3) := by decide +kernel
theorem dX2_become_36 : decode cX2_become 36 = .ok (.putfield 28, 3) := by decide +kernel
theorem dX2_become_39 : decode cX2_become 39 = .ok (.return_, 1) := by decide +kernel
theorem dX3_init_0 : decode cX3_init 0 = .ok (.aload_n 0, 1) := by decide +kernel
theorem dX3_init_1 : decode cX3_init 1 = .ok (.invokespecial 3, 3) := by decide +kernel
theorem dX3_init_4 : decode cX3_init 4 = .ok (.aload_n 0, 1) := by decide +kernel
theorem dX3_init_5 : decode cX3_init 5 = .ok (.bipush 20, 2) := by decide +kernel
theorem dX3_init_7 : decode cX3_init 7 = .ok (.newarray .int, 2) := by decide +kernel
theorem dX3_init_9 : decode cX3_init 9 = .ok (.putfield 9, 3) := by decide +kernel
theorem dX3_init_12 : decode cX3_init 12 = .ok (.aload_n 0, 1) := by decide +kernel
theorem dX3_init_13 : decode cX3_init 13 = .ok (.sipush 256, 3) := by decide +kernel
theorem dX3_init_16 : decode cX3_init 16 = .ok (.newarray .int, 2) := by decide +kernel
theorem dX3_init_18 : decode cX3_init 18 = .ok (.putfield 15, 3) := by decide +kernel
theorem dX3_init_21 : decode cX3_init 21 = .ok (.aload_n 0, 1) := by decide +kernel
theorem dX3_init_22 : decode cX3_init 22 = .ok (.invokevirtual 18, 3) := by decide +kernel
theorem dX3_init_25 : decode cX3_init 25 = .ok (.return_, 1) := by decide +kernel
theorem dX3_restart_0 : decode cX3_restart 0 = .ok (.aload_n 0, 1) := by decide +kernel
theorem dX3_restart_1 : decode cX3_restart 1 = .ok (.iconst 5, 1) := by decide +kernel
theorem dX3_restart_2 : decode cX3_restart 2 = .ok (.putfield 21, 3) := by decide +kernel
theorem dX3_restart_5 : decode cX3_restart 5 = .ok (.aload_n 0, 1) := by decide +kernel
theorem dX3_restart_6 : decode cX3_restart 6 = .ok (.iconst 4, 1) := by decide +kernel
theorem dX3_restart_7 : decode cX3_restart 7 = .ok (.putfield 25, 3) := by decide +kernel
theorem dX3_restart_10 : decode cX3_restart 10 = .ok (.aload_n 0, 1) := by decide +kernel
theorem dX3_restart_11 : decode cX3_restart 11 = .ok (.getfield 9, 3) := by decide +kernel
theorem dX3_restart_14 : decode cX3_restart 14 = .ok (.bipush 7, 2) := by decide +kernel
theorem dX3_restart_16 : decode cX3_restart 16 = .ok (.invokestatic 28, 3) := by decide +kernel
theorem dX3_restart_19 : decode cX3_restart 19 = .ok (.aload_n 0, 1) := by decide +kernel
theorem dX3_restart_20 : decode cX3_restart 20 = .ok (.getfield 15, 3) := by decide +kernel
theorem dX3_restart_23 : decode cX3_restart 23 = .ok (.iconst 0, 1) := by decide +kernel
theorem dX3_restart_24 : decode cX3_restart 24 = .ok (.bipush 7, 2) := by decide +kernel
theorem dX3_restart_26 : decode cX3_restart 26 = .ok (.iastore, 1) := by decide +kernel
theorem dX3_restart_27 : decode cX3_restart 27 = .ok (.aload_n 0, 1) := by decide +kernel
theorem dX3_restart_28 : decode cX3_restart 28 = .ok (.iconst 0, 1) := by decide +kernel
theorem dX3_restart_29 : decode cX3_restart 29 = .ok (.putfield 34, 3) := by decide +kernel
theorem dX3_restart_32 : decode cX3_restart 32 = .ok (.aload_n 0, 1) := by decide +kernel
theorem dX3_restart_33 : decode cX3_restart 33 = .ok (.bipush 12, 2) := by decide +kernel
theorem dX3_restart_35 : decode cX3_restart 35 = .ok (.putfield 37, 3) := by decide +kernel
theorem dX3_restart_38 : decode cX3_restart 38 = .ok (.aload_n 0, 1) := by decide +kernel
theorem dX3_restart_39 : decode cX3_restart 39 = .ok (.iconst 0, 1) := by decide +kernel
theorem dX3_restart_40 : decode cX3_restart 40 = .ok (.putfield 40, 3) := by decide +kernel
theorem dX3_restart_43 : decode cX3_restart 43 = .ok (.return_, 1) := by decide +kernel
theorem dX3_addSheet_0 : decode cX3_addSheet 0 = .ok (.iconst 1, 1) := by decide +kernel
theorem dX3_addSheet_1 : decode cX3_addSheet 1 = .ok (.aload_n 0, 1) := by decide +kernel
theorem dX3_addSheet_2 : decode cX3_addSheet 2 = .ok (.getfield 34, 3) := by decide +kernel
theorem dX3_addSheet_5 : decode cX3_addSheet 5 = .ok (.ishl, 1) := by decide +kernel
theorem dX3_addSheet_6 : decode cX3_addSheet 6 = .ok (.istore_n 2, 1) := by decide +kernel
theorem dX3_addSheet_7 : decode cX3_addSheet 7 = .ok (.iconst 0, 1) := by decide +kernel
theorem dX3_addSheet_8 : decode cX3_addSheet 8 = .ok (.istore_n 3, 1) := by decide +kernel
theorem dX3_addSheet_9 : decode cX3_addSheet 9 = .ok (.iload_n 3, 1) := by decide +kernel
theorem dX3_addSheet_10 : decode cX3_addSheet 10 = .ok (.iload_n 2, 1) := by decide +kernel
theorem dX3_addSheet_11 : decode cX3_addSheet 11 = .ok (.if_icmp .ge 25, 3) := by decide +kernel
theorem dX3_addSheet_14 : decode cX3_addSheet 14 = .ok (.aload_n 0, 1) := by decide +kernel
theorem dX3_addSheet_15 : decode cX3_addSheet 15 = .ok (.getfield 15, 3) := by decide +kernel
theorem dX3_addSheet_18 : decode cX3_addSheet 18 = .ok (.iload_n 2, 1) := by decide +kernel
theorem dX3_addSheet_19 : decode cX3_addSheet 19 = .ok (.iload_n 3, 1) := by decide +kernel
theorem dX3_addSheet_20 : decode cX3_addSheet 20 = .ok (.iadd, 1) := by decide +kernel
theorem dX3_addSheet_21 : decode cX3_addSheet 21 = .ok (.aload_n 0, 1) := by decide +kernel
theorem dX3_addSheet_22 : decode cX3_addSheet 22 = .ok (.getfield 15, 3) := by decide +kernel
theorem dX3_addSheet_25 : decode cX3_addSheet 25 = .ok (.iload_n 3, 1) := by decide +kernel
theorem dX3_addSheet_26 : decode cX3_addSheet 26 = .ok (.iaload, 1) := by decide +kernel
theorem dX3_addSheet_27 : decode cX3_addSheet 27 = .ok (.iload_n 1, 1) := by decide +kernel
theorem dX3_addSheet_28 : decode cX3_addSheet 28 = .ok (.iand, 1) := by decide +kernel
theorem dX3_addSheet_29 : decode cX3_addSheet 29 = .ok (.iastore, 1) := by decide +kernel
theorem dX3_addSheet_30 : decode cX3_addSheet 30 = .ok (.iinc 3 1, 3) := by decide +kernel
theorem dX3_addSheet_33 : decode cX3_addSheet 33 = .ok (.goto (-24), 3) := by decide +kernel
theorem dX3_addSheet_36 : decode cX3_addSheet 36 = .ok (.aload_n 0, 1) := by decide +kernel
theorem dX3_addSheet_37 : decode cX3_addSheet 37 = .ok (.dup, 1) := by decide +kernel
theorem dX3_addSheet_38 : decode cX3_addSheet 38 = .ok (.getfield 34, 3) := by decide +kernel
theorem dX3_addSheet_41 : decode cX3_addSheet 41 = .ok (.iconst 1, 1) := by decide +kernel
theorem dX3_addSheet_42 : decode cX3_addSheet 42 = .ok (.iadd, 1) := by decide +kernel
theorem dX3_addSheet_43 : decode cX3_addSheet 43 = .ok (.putfield 34, 3) := by decide +kernel
theorem dX3_addSheet_46 : decode cX3_addSheet 46 = .ok (.return_, 1) := by decide +kernel
theorem dX4_init_0 : decode cX4_init 0 = .ok (.aload_n 0, 1) := by decide +kernel
theorem dX4_init_1 : decode cX4_init 1 = .ok (.invokespecial 3, 3) := by decide +kernel
theorem dX4_init_4 : decode cX4_init 4 = .ok (.aload_n 0, 1) := by decide +kernel
theorem dX4_init_5 : decode cX4_init 5 = .ok (.sipush 170, 3) := by decide +kernel
theorem dX4_init_8 : decode cX4_init 8 = .ok (.newarray .int, 2) := by decide +kernel
theorem dX4_init_10 : decode cX4_init 10 = .ok (.putfield 11, 3) := by decide +kernel
theorem dX4_init_13 : decode cX4_init 13 = .ok (.return_, 1) := by decide +kernel
theorem dX4_add_0 : decode cX4_add 0 = .ok (.aload_n 0, 1) := by decide +kernel
theorem dX4_add_1 : decode cX4_add 1 = .ok (.getfield 15, 3) := by decide +kernel
theorem dX4_add_4 : decode cX4_add 4 = .ok (.sipush 170, 3) := by decide +kernel
theorem dX4_add_7 : decode cX4_add 7 = .ok (.if_icmp .lt 5, 3) := by decide +kernel
theorem dX4_add_10 : decode cX4_add 10 = .ok (.iconst 0, 1) := by decide +kernel
theorem dX4_add_11 : decode cX4_add 11 = .ok (.ireturn, 1) := by decide +kernel
theorem dX4_add_12 : decode cX4_add 12 = .ok (.aload_n 0, 1) := by decide +kernel
theorem dX4_add_13 : decode cX4_add 13 = .ok (.getfield 11, 3) := by decide +kernel
theorem dX4_add_16 : decode cX4_add 16 = .ok (.aload_n 0, 1) := by decide +kernel
theorem dX4_add_17 : decode cX4_add 17 = .ok (.getfield 15, 3) := by decide +kernel
theorem dX4_add_20 : decode cX4_add 20 = .ok (.iload_n 1, 1) := by decide +kernel
theorem dX4_add_21 : decode cX4_add 21 = .ok (.iastore, 1) := by decide +kernel
theorem dX4_add_22 : decode cX4_add 22 = .ok (.aload_n 0, 1) := by decide +kernel
theorem dX4_add_23 : decode cX4_add 23 = .ok (.dup, 1) := by decide +kernel
theorem dX4_add_24 : decode cX4_add 24 = .ok (.getfield 15, 3) := by decide +kernel
theorem dX4_add_27 : decode cX4_add 27 = .ok (.iconst 1, 1) := by decide +kernel
theorem dX4_add_28 : decode cX4_add 28 = .ok (.iadd, 1) := by decide +kernel
theorem dX4_add_29 : decode cX4_add 29 = .ok (.putfield 15, 3) := by decide +kernel
theorem dX4_add_32 : decode cX4_add 32 = .ok (.iconst 1, 1) := by decide +kernel
theorem dX4_add_33 : decode cX4_add 33 = .ok (.ireturn, 1) := by decide +kernel
theorem dX4_readInto_0 : decode cX4_readInto 0 = .ok (.aload_n 1, 1) := by decide +kernel
theorem dX4_readInto_1 : decode cX4_readInto 1 = .ok (.invokevirtual 19, 3) := by decide +kernel
theorem dX4_readInto_4 : decode cX4_readInto 4 = .ok (.aload_n 0, 1) := by decide +kernel
theorem dX4_readInto_5 : decode cX4_readInto 5 = .ok (.iconst 0, 1) := by decide +kernel
theorem dX4_readInto_6 : decode cX4_readInto 6 = .ok (.putfield 24, 3) := by decide +kernel
theorem dX4_readInto_9 : decode cX4_readInto 9 = .ok (.aload_n 0, 1) := by decide +kernel
theorem dX4_readInto_10 : decode cX4_readInto 10 = .ok (.iconst 0, 1) := by decide +kernel
theorem dX4_readInto_11 : decode cX4_readInto 11 = .ok (.putfield 28, 3) := by decide +kernel
theorem dX4_readInto_14 : decode cX4_readInto 14 = .ok (.aload_n 0, 1) := by decide +kernel
theorem dX4_readInto_15 : decode cX4_readInto 15 = .ok (.iconst 0, 1) := by decide +kernel
theorem dX4_readInto_16 : decode cX4_readInto 16 = .ok (.putfield 31, 3) := by decide +kernel
theorem dX4_readInto_19 : decode cX4_readInto 19 = .ok (.aload_n 0, 1) := by decide +kernel
theorem dX4_readInto_20 : decode cX4_readInto 20 = .ok (.invokevirtual 34, 3) := by decide +kernel
theorem dX4_readInto_23 : decode cX4_readInto 23 = .ok (.iconst 0, 1) := by decide +kernel
theorem dX4_readInto_24 : decode cX4_readInto 24 = .ok (.istore_n 2, 1) := by decide +kernel
theorem dX4_readInto_25 : decode cX4_readInto 25 = .ok (.iload_n 2, 1) := by decide +kernel
theorem dX4_readInto_26 : decode cX4_readInto 26 = .ok (.aload_n 0, 1) := by decide +kernel
theorem dX4_readInto_27 : decode cX4_readInto 27 = .ok (.getfield 15, 3) := by decide +kernel
theorem dX4_readInto_30 : decode cX4_readInto 30 = .ok (.if_icmp .ge 45, 3) := by decide +kernel
theorem dX4_readInto_33 : decode cX4_readInto 33 = .ok (.aload_n 0, 1) := by decide +kernel
theorem dX4_readInto_34 : decode cX4_readInto 34 = .ok (.getfield 37, 3) := by decide +kernel
theorem dX4_readInto_37 : decode cX4_readInto 37 = .ok (.ifCond .eq 38, 3) := by decide +kernel
theorem dX4_readInto_40 : decode cX4_readInto 40 = .ok (.aload_n 0, 1) := by decide +kernel
theorem dX4_readInto_41 : decode cX4_readInto 41 = .ok (.aload_n 1, 1) := by decide +kernel
theorem dX4_readInto_42 : decode cX4_readInto 42 = .ok (.iload_n 2, 1) := by decide +kernel
theorem dX4_readInto_43 : decode cX4_readInto 43 = .ok (.ifCond .ne 7, 3) := by decide +kernel
theorem dX4_readInto_46 : decode cX4_readInto 46 = .ok (.iconst 1, 1) := by decide +kernel
theorem dX4_readInto_47 : decode cX4_readInto 47 = .ok (.goto 4, 3) := by decide +kernel
theorem dX4_readInto_50 : decode cX4_readInto 50 = .ok (.iconst 0, 1) := by decide +kernel
theorem dX4_readInto_51 : decode cX4_readInto 51 = .ok (.invokevirtual 40, 3) := by decide +kernel
theorem dX4_readInto_54 : decode cX4_readInto 54 = .ok (.ifCond .ne 11, 3) := by decide +kernel
theorem dX4_readInto_57 : decode cX4_readInto 57 = .ok (.bipush (-10), 2) := by decide +kernel
theorem dX4_readInto_59 : decode cX4_readInto 59 = .ok (.aload_n 0, 1) := by decide +kernel
theorem dX4_readInto_60 : decode cX4_readInto 60 = .ok (.getfield 44, 3) := by decide +kernel
theorem dX4_readInto_63 : decode cX4_readInto 63 = .ok (.isub, 1) := by decide +kernel
theorem dX4_readInto_64 : decode cX4_readInto 64 = .ok (.ireturn, 1) := by decide +kernel
theorem dX4_readInto_65 : decode cX4_readInto 65 = .ok (.aload_n 0, 1) := by decide +kernel
theorem dX4_readInto_66 : decode cX4_readInto 66 = .ok (.invokevirtual 34, 3) := by decide +kernel
theorem dX4_readInto_69 : decode cX4_readInto 69 = .ok (.iinc 2 1, 3) := by decide +kernel
theorem dX4_readInto_72 : decode cX4_readInto 72 = .ok (.goto (-47), 3) := by decide +kernel
theorem dX4_readInto_75 : decode cX4_readInto 75 = .ok (.iload_n 2, 1) := by decide +kernel
theorem dX4_readInto_76 : decode cX4_readInto 76 = .ok (.ireturn, 1) := by decide +kernel
theorem dX4_item_0 : decode cX4_item 0 = .ok (.aload_n 0, 1) := by decide +kernel
theorem dX4_item_1 : decode cX4_item 1 = .ok (.getfield 37, 3) := by decide +kernel
theorem dX4_item_4 : decode cX4_item 4 = .ok (.iconst 1, 1) := by decide +kernel
theorem dX4_item_5 : decode cX4_item 5 = .ok (.if_icmp .eq 5, 3) := by decide +kernel
theorem dX4_item_8 : decode cX4_item 8 = .ok (.iconst 0, 1) := by decide +kernel
theorem dX4_item_9 : decode cX4_item 9 = .ok (.ireturn, 1) := by decide +kernel
theorem dX4_item_10 : decode cX4_item 10 = .ok (.aload_n 0, 1) := by decide +kernel
theorem dX4_item_11 : decode cX4_item 11 = .ok (.getfield 47, 3) := by decide +kernel
theorem dX4_item_14 : decode cX4_item 14 = .ok (.lookupswitch 139 #[(103, 50), (109, 97), (112, 68), (115, 74), (121, 118)], 50) := by decide +kernel
theorem dX4_item_64 : decode cX4_item 64 = .ok (.iload_n 2, 1) := by decide +kernel
theorem dX4_item_65 : decode cX4_item 65 = .ok (.ifCond .eq 15, 3) := by decide +kernel
theorem dX4_item_68 : decode cX4_item 68 = .ok (.aload_n 0, 1) := by decide +kernel
theorem dX4_item_69 : decode cX4_item 69 = .ok (.aload_n 1, 1) := by decide +kernel
theorem dX4_item_70 : decode cX4_item 70 = .ok (.invokevirtual 50, 3) := by decide +kernel
theorem dX4_item_73 : decode cX4_item 73 = .ok (.ifCond .eq 7, 3) := by decide +kernel
theorem dX4_item_76 : decode cX4_item 76 = .ok (.iconst 1, 1) := by decide +kernel
theorem dX4_item_77 : decode cX4_item 77 = .ok (.goto 4, 3) := by decide +kernel
theorem dX4_item_80 : decode cX4_item 80 = .ok (.iconst 0, 1) := by decide +kernel
theorem dX4_item_81 : decode cX4_item 81 = .ok (.ireturn, 1) := by decide +kernel
theorem dX4_item_82 : decode cX4_item 82 = .ok (.aload_n 0, 1) := by decide +kernel
theorem dX4_item_83 : decode cX4_item 83 = .ok (.aload_n 1, 1) := by decide +kernel
theorem dX4_item_84 : decode cX4_item 84 = .ok (.invokevirtual 54, 3) := by decide +kernel
theorem dX4_item_87 : decode cX4_item 87 = .ok (.ireturn, 1) := by decide +kernel
theorem dX4_item_88 : decode cX4_item 88 = .ok (.aload_n 1, 1) := by decide +kernel
theorem dX4_item_89 : decode cX4_item 89 = .ok (.getfield 57, 3) := by decide +kernel
theorem dX4_item_92 : decode cX4_item 92 = .ok (.bipush 8, 2) := by decide +kernel
theorem dX4_item_94 : decode cX4_item 94 = .ok (.if_icmp .ge 15, 3) := by decide +kernel
theorem dX4_item_97 : decode cX4_item 97 = .ok (.aload_n 0, 1) := by decide +kernel
theorem dX4_item_98 : decode cX4_item 98 = .ok (.aload_n 1, 1) := by decide +kernel
theorem dX4_item_99 : decode cX4_item 99 = .ok (.invokevirtual 60, 3) := by decide +kernel
theorem dX4_item_102 : decode cX4_item 102 = .ok (.ifCond .eq 7, 3) := by decide +kernel
theorem dX4_item_105 : decode cX4_item 105 = .ok (.iconst 1, 1) := by decide +kernel
theorem dX4_item_106 : decode cX4_item 106 = .ok (.goto 4, 3) := by decide +kernel
theorem dX4_item_109 : decode cX4_item 109 = .ok (.iconst 0, 1) := by decide +kernel
theorem dX4_item_110 : decode cX4_item 110 = .ok (.ireturn, 1) := by decide +kernel
theorem dX4_item_111 : decode cX4_item 111 = .ok (.aload_n 0, 1) := by decide +kernel
theorem dX4_item_112 : decode cX4_item 112 = .ok (.getfield 24, 3) := by decide +kernel
theorem dX4_item_115 : decode cX4_item 115 = .ok (.ifCond .ne 15, 3) := by decide +kernel
theorem dX4_item_118 : decode cX4_item 118 = .ok (.aload_n 0, 1) := by decide +kernel
theorem dX4_item_119 : decode cX4_item 119 = .ok (.aload_n 1, 1) := by decide +kernel
theorem dX4_item_120 : decode cX4_item 120 = .ok (.invokevirtual 63, 3) := by decide +kernel
theorem dX4_item_123 : decode cX4_item 123 = .ok (.ifCond .eq 7, 3) := by decide +kernel
theorem dX4_item_126 : decode cX4_item 126 = .ok (.iconst 1, 1) := by decide +kernel
theorem dX4_item_127 : decode cX4_item 127 = .ok (.goto 4, 3) := by decide +kernel
theorem dX4_item_130 : decode cX4_item 130 = .ok (.iconst 0, 1) := by decide +kernel
theorem dX4_item_131 : decode cX4_item 131 = .ok (.ireturn, 1) := by decide +kernel
theorem dX4_item_132 : decode cX4_item 132 = .ok (.aload_n 0, 1) := by decide +kernel
theorem dX4_item_133 : decode cX4_item 133 = .ok (.getfield 28, 3) := by decide +kernel
theorem dX4_item_136 : decode cX4_item 136 = .ok (.ifCond .ne 15, 3) := by decide +kernel
theorem dX4_item_139 : decode cX4_item 139 = .ok (.aload_n 0, 1) := by decide +kernel
theorem dX4_item_140 : decode cX4_item 140 = .ok (.aload_n 1, 1) := by decide +kernel
theorem dX4_item_141 : decode cX4_item 141 = .ok (.invokevirtual 66, 3) := by decide +kernel
theorem dX4_item_144 : decode cX4_item 144 = .ok (.ifCond .eq 7, 3) := by decide +kernel
theorem dX4_item_147 : decode cX4_item 147 = .ok (.iconst 1, 1) := by decide +kernel
theorem dX4_item_148 : decode cX4_item 148 = .ok (.goto 4, 3) := by decide +kernel
theorem dX4_item_151 : decode cX4_item 151 = .ok (.iconst 0, 1) := by decide +kernel
theorem dX4_item_152 : decode cX4_item 152 = .ok (.ireturn, 1) := by decide +kernel
theorem dX4_item_153 : decode cX4_item 153 = .ok (.iconst 0, 1) := by decide +kernel
theorem dX4_item_154 : decode cX4_item 154 = .ok (.ireturn, 1) := by decide +kernel
theorem dX4_size_0 : decode cX4_size 0 = .ok (.aload_n 0, 1) := by decide +kernel
theorem dX4_size_1 : decode cX4_size 1 = .ok (.iconst 1, 1) := by decide +kernel
theorem dX4_size_2 : decode cX4_size 2 = .ok (.iconst 5, 1) := by decide +kernel
theorem dX4_size_3 : decode cX4_size 3 = .ok (.invokevirtual 69, 3) := by decide +kernel
theorem dX4_size_6 : decode cX4_size 6 = .ok (.ifCond .ne 5, 3) := by decide +kernel
theorem dX4_size_9 : decode cX4_size 9 = .ok (.iconst 0, 1) := by decide +kernel
theorem dX4_size_10 : decode cX4_size 10 = .ok (.ireturn, 1) := by decide +kernel
theorem dX4_size_11 : decode cX4_size 11 = .ok (.aload_n 1, 1) := by decide +kernel
theorem dX4_size_12 : decode cX4_size 12 = .ok (.aload_n 0, 1) := by decide +kernel
theorem dX4_size_13 : decode cX4_size 13 = .ok (.getfield 47, 3) := by decide +kernel
theorem dX4_size_16 : decode cX4_size 16 = .ok (.putfield 73, 3) := by decide +kernel
theorem dX4_size_19 : decode cX4_size 19 = .ok (.aload_n 0, 1) := by decide +kernel
theorem dX4_size_20 : decode cX4_size 20 = .ok (.iconst 1, 1) := by decide +kernel
theorem dX4_size_21 : decode cX4_size 21 = .ok (.iconst 4, 1) := by decide +kernel
theorem dX4_size_22 : decode cX4_size 22 = .ok (.invokevirtual 69, 3) := by decide +kernel
theorem dX4_size_25 : decode cX4_size 25 = .ok (.ifCond .ne 5, 3) := by decide +kernel
theorem dX4_size_28 : decode cX4_size 28 = .ok (.iconst 0, 1) := by decide +kernel
theorem dX4_size_29 : decode cX4_size 29 = .ok (.ireturn, 1) := by decide +kernel
theorem dX4_size_30 : decode cX4_size 30 = .ok (.aload_n 1, 1) := by decide +kernel
theorem dX4_size_31 : decode cX4_size 31 = .ok (.aload_n 0, 1) := by decide +kernel
theorem dX4_size_32 : decode cX4_size 32 = .ok (.getfield 47, 3) := by decide +kernel
theorem dX4_size_35 : decode cX4_size 35 = .ok (.putfield 76, 3) := by decide +kernel
theorem dX4_size_38 : decode cX4_size 38 = .ok (.aload_n 0, 1) := by decide +kernel
theorem dX4_size_39 : decode cX4_size 39 = .ok (.invokevirtual 79, 3) := by decide +kernel
theorem dX4_size_42 : decode cX4_size 42 = .ok (.ireturn, 1) := by decide +kernel
theorem dX4_glass_0 : decode cX4_glass 0 = .ok (.aload_n 0, 1) := by decide +kernel
theorem dX4_glass_1 : decode cX4_glass 1 = .ok (.iconst 0, 1) := by decide +kernel
theorem dX4_glass_2 : decode cX4_glass 2 = .ok (.aload_n 1, 1) := by decide +kernel
theorem dX4_glass_3 : decode cX4_glass 3 = .ok (.getfield 73, 3) := by decide +kernel
theorem dX4_glass_6 : decode cX4_glass 6 = .ok (.iconst 1, 1) := by decide +kernel
theorem dX4_glass_7 : decode cX4_glass 7 = .ok (.isub, 1) := by decide +kernel
theorem dX4_glass_8 : decode cX4_glass 8 = .ok (.invokevirtual 69, 3) := by decide +kernel
theorem dX4_glass_11 : decode cX4_glass 11 = .ok (.ifCond .ne 5, 3) := by decide +kernel
theorem dX4_glass_14 : decode cX4_glass 14 = .ok (.iconst 0, 1) := by decide +kernel
theorem dX4_glass_15 : decode cX4_glass 15 = .ok (.ireturn, 1) := by decide +kernel
theorem dX4_glass_16 : decode cX4_glass 16 = .ok (.aload_n 0, 1) := by decide +kernel
theorem dX4_glass_17 : decode cX4_glass 17 = .ok (.getfield 47, 3) := by decide +kernel
theorem dX4_glass_20 : decode cX4_glass 20 = .ok (.istore_n 2, 1) := by decide +kernel
theorem dX4_glass_21 : decode cX4_glass 21 = .ok (.aload_n 0, 1) := by decide +kernel
theorem dX4_glass_22 : decode cX4_glass 22 = .ok (.iconst 0, 1) := by decide +kernel
theorem dX4_glass_23 : decode cX4_glass 23 = .ok (.aload_n 1, 1) := by decide +kernel
theorem dX4_glass_24 : decode cX4_glass 24 = .ok (.getfield 76, 3) := by decide +kernel
theorem dX4_glass_27 : decode cX4_glass 27 = .ok (.iconst 1, 1) := by decide +kernel
theorem dX4_glass_28 : decode cX4_glass 28 = .ok (.isub, 1) := by decide +kernel
theorem dX4_glass_29 : decode cX4_glass 29 = .ok (.invokevirtual 69, 3) := by decide +kernel
theorem dX4_glass_32 : decode cX4_glass 32 = .ok (.ifCond .ne 5, 3) := by decide +kernel
theorem dX4_glass_35 : decode cX4_glass 35 = .ok (.iconst 0, 1) := by decide +kernel
theorem dX4_glass_36 : decode cX4_glass 36 = .ok (.ireturn, 1) := by decide +kernel
theorem dX4_glass_37 : decode cX4_glass 37 = .ok (.iconst 4, 1) := by decide +kernel
theorem dX4_glass_38 : decode cX4_glass 38 = .ok (.iload_n 2, 1) := by decide +kernel
theorem dX4_glass_39 : decode cX4_glass 39 = .ok (.imul, 1) := by decide +kernel
theorem dX4_glass_40 : decode cX4_glass 40 = .ok (.aload_n 0, 1) := by decide +kernel
theorem dX4_glass_41 : decode cX4_glass 41 = .ok (.getfield 47, 3) := by decide +kernel
theorem dX4_glass_44 : decode cX4_glass 44 = .ok (.iadd, 1) := by decide +kernel
theorem dX4_glass_45 : decode cX4_glass 45 = .ok (.istore_n 3, 1) := by decide +kernel
theorem dX4_glass_46 : decode cX4_glass 46 = .ok (.aload_n 0, 1) := by decide +kernel
theorem dX4_glass_47 : decode cX4_glass 47 = .ok (.iconst 0, 1) := by decide +kernel
theorem dX4_glass_48 : decode cX4_glass 48 = .ok (.bipush 7, 2) := by decide +kernel
theorem dX4_glass_50 : decode cX4_glass 50 = .ok (.invokevirtual 69, 3) := by decide +kernel
theorem dX4_glass_53 : decode cX4_glass 53 = .ok (.ifCond .ne 5, 3) := by decide +kernel
theorem dX4_glass_56 : decode cX4_glass 56 = .ok (.iconst 0, 1) := by decide +kernel
theorem dX4_glass_57 : decode cX4_glass 57 = .ok (.ireturn, 1) := by decide +kernel
theorem dX4_glass_58 : decode cX4_glass 58 = .ok (.aload_n 1, 1) := by decide +kernel
theorem dX4_glass_59 : decode cX4_glass 59 = .ok (.getfield 83, 3) := by decide +kernel
theorem dX4_glass_62 : decode cX4_glass 62 = .ok (.iload_n 3, 1) := by decide +kernel
theorem dX4_glass_63 : decode cX4_glass 63 = .ok (.aload_n 0, 1) := by decide +kernel
theorem dX4_glass_64 : decode cX4_glass 64 = .ok (.getfield 47, 3) := by decide +kernel
theorem dX4_glass_67 : decode cX4_glass 67 = .ok (.iastore, 1) := by decide +kernel
theorem dX4_glass_68 : decode cX4_glass 68 = .ok (.aload_n 0, 1) := by decide +kernel
theorem dX4_glass_69 : decode cX4_glass 69 = .ok (.invokevirtual 79, 3) := by decide +kernel
theorem dX4_glass_72 : decode cX4_glass 72 = .ok (.ireturn, 1) := by decide +kernel
theorem dX4_sheetColour_0 : decode cX4_sheetColour 0 = .ok (.aload_n 0, 1) := by decide +kernel
theorem dX4_sheetColour_1 : decode cX4_sheetColour 1 = .ok (.iconst 0, 1) := by decide +kernel
theorem dX4_sheetColour_2 : decode cX4_sheetColour 2 = .ok (.bipush 7, 2) := by decide +kernel
theorem dX4_sheetColour_4 : decode cX4_sheetColour 4 = .ok (.invokevirtual 69, 3) := by decide +kernel
theorem dX4_sheetColour_7 : decode cX4_sheetColour 7 = .ok (.ifCond .ne 5, 3) := by decide +kernel
theorem dX4_sheetColour_10 : decode cX4_sheetColour 10 = .ok (.iconst 0, 1) := by decide +kernel
theorem dX4_sheetColour_11 : decode cX4_sheetColour 11 = .ok (.ireturn, 1) := by decide +kernel
theorem dX4_sheetColour_12 : decode cX4_sheetColour 12 = .ok (.aload_n 1, 1) := by decide +kernel
theorem dX4_sheetColour_13 : decode cX4_sheetColour 13 = .ok (.aload_n 0, 1) := by decide +kernel
theorem dX4_sheetColour_14 : decode cX4_sheetColour 14 = .ok (.getfield 47, 3) := by decide +kernel
theorem dX4_sheetColour_17 : decode cX4_sheetColour 17 = .ok (.invokevirtual 85, 3) := by decide +kernel
theorem dX4_sheetColour_20 : decode cX4_sheetColour 20 = .ok (.aload_n 0, 1) := by decide +kernel
theorem dX4_sheetColour_21 : decode cX4_sheetColour 21 = .ok (.invokevirtual 79, 3) := by decide +kernel
theorem dX4_sheetColour_24 : decode cX4_sheetColour 24 = .ok (.ireturn, 1) := by decide +kernel
theorem dX4_mirror_0 : decode cX4_mirror 0 = .ok (.aload_n 0, 1) := by decide +kernel
theorem dX4_mirror_1 : decode cX4_mirror 1 = .ok (.iconst 1, 1) := by decide +kernel
theorem dX4_mirror_2 : decode cX4_mirror 2 = .ok (.bipush 12, 2) := by decide +kernel
theorem dX4_mirror_4 : decode cX4_mirror 4 = .ok (.invokevirtual 69, 3) := by decide +kernel
theorem dX4_mirror_7 : decode cX4_mirror 7 = .ok (.ifCond .ne 5, 3) := by decide +kernel
theorem dX4_mirror_10 : decode cX4_mirror 10 = .ok (.iconst 0, 1) := by decide +kernel
theorem dX4_mirror_11 : decode cX4_mirror 11 = .ok (.ireturn, 1) := by decide +kernel
theorem dX4_mirror_12 : decode cX4_mirror 12 = .ok (.aload_n 1, 1) := by decide +kernel
theorem dX4_mirror_13 : decode cX4_mirror 13 = .ok (.aload_n 0, 1) := by decide +kernel
theorem dX4_mirror_14 : decode cX4_mirror 14 = .ok (.getfield 47, 3) := by decide +kernel
theorem dX4_mirror_17 : decode cX4_mirror 17 = .ok (.putfield 89, 3) := by decide +kernel
theorem dX4_mirror_20 : decode cX4_mirror 20 = .ok (.aload_n 0, 1) := by decide +kernel
theorem dX4_mirror_21 : decode cX4_mirror 21 = .ok (.iconst 1, 1) := by decide +kernel
theorem dX4_mirror_22 : decode cX4_mirror 22 = .ok (.putfield 24, 3) := by decide +kernel
theorem dX4_mirror_25 : decode cX4_mirror 25 = .ok (.aload_n 0, 1) := by decide +kernel
theorem dX4_mirror_26 : decode cX4_mirror 26 = .ok (.invokevirtual 79, 3) := by decide +kernel
theorem dX4_mirror_29 : decode cX4_mirror 29 = .ok (.ireturn, 1) := by decide +kernel
theorem dX4_season_0 : decode cX4_season 0 = .ok (.aload_n 0, 1) := by decide +kernel
theorem dX4_season_1 : decode cX4_season 1 = .ok (.iconst 0, 1) := by decide +kernel
theorem dX4_season_2 : decode cX4_season 2 = .ok (.iconst 3, 1) := by decide +kernel
theorem dX4_season_3 : decode cX4_season 3 = .ok (.invokevirtual 69, 3) := by decide +kernel
theorem dX4_season_6 : decode cX4_season 6 = .ok (.ifCond .ne 5, 3) := by decide +kernel
theorem dX4_season_9 : decode cX4_season 9 = .ok (.iconst 0, 1) := by decide +kernel
theorem dX4_season_10 : decode cX4_season 10 = .ok (.ireturn, 1) := by decide +kernel
theorem dX4_season_11 : decode cX4_season 11 = .ok (.aload_n 1, 1) := by decide +kernel
theorem dX4_season_12 : decode cX4_season 12 = .ok (.aload_n 0, 1) := by decide +kernel
theorem dX4_season_13 : decode cX4_season 13 = .ok (.getfield 47, 3) := by decide +kernel
theorem dX4_season_16 : decode cX4_season 16 = .ok (.putfield 91, 3) := by decide +kernel
theorem dX4_season_19 : decode cX4_season 19 = .ok (.aload_n 0, 1) := by decide +kernel
theorem dX4_season_20 : decode cX4_season 20 = .ok (.iconst 1, 1) := by decide +kernel
theorem dX4_season_21 : decode cX4_season 21 = .ok (.putfield 28, 3) := by decide +kernel
theorem dX4_season_24 : decode cX4_season 24 = .ok (.aload_n 0, 1) := by decide +kernel
theorem dX4_season_25 : decode cX4_season 25 = .ok (.invokevirtual 79, 3) := by decide +kernel
theorem dX4_season_28 : decode cX4_season 28 = .ok (.ireturn, 1) := by decide +kernel
theorem dX4_number_0 : decode cX4_number 0 = .ok (.aload_n 0, 1) := by decide +kernel
theorem dX4_number_1 : decode cX4_number 1 = .ok (.invokevirtual 34, 3) := by decide +kernel
theorem dX4_number_4 : decode cX4_number 4 = .ok (.aload_n 0, 1) := by decide +kernel
theorem dX4_number_5 : decode cX4_number 5 = .ok (.getfield 37, 3) := by decide +kernel
theorem dX4_number_8 : decode cX4_number 8 = .ok (.iconst 2, 1) := by decide +kernel
theorem dX4_number_9 : decode cX4_number 9 = .ok (.if_icmp .ne 23, 3) := by decide +kernel
theorem dX4_number_12 : decode cX4_number 12 = .ok (.aload_n 0, 1) := by decide +kernel
theorem dX4_number_13 : decode cX4_number 13 = .ok (.getfield 47, 3) := by decide +kernel
theorem dX4_number_16 : decode cX4_number 16 = .ok (.iload_n 1, 1) := by decide +kernel
theorem dX4_number_17 : decode cX4_number 17 = .ok (.if_icmp .lt 15, 3) := by decide +kernel
theorem dX4_number_20 : decode cX4_number 20 = .ok (.aload_n 0, 1) := by decide +kernel
theorem dX4_number_21 : decode cX4_number 21 = .ok (.getfield 47, 3) := by decide +kernel
theorem dX4_number_24 : decode cX4_number 24 = .ok (.iload_n 2, 1) := by decide +kernel
theorem dX4_number_25 : decode cX4_number 25 = .ok (.if_icmp .gt 7, 3) := by decide +kernel
theorem dX4_number_28 : decode cX4_number 28 = .ok (.iconst 1, 1) := by decide +kernel
theorem dX4_number_29 : decode cX4_number 29 = .ok (.goto 4, 3) := by decide +kernel
theorem dX4_number_32 : decode cX4_number 32 = .ok (.iconst 0, 1) := by decide +kernel
theorem dX4_number_33 : decode cX4_number 33 = .ok (.ireturn, 1) := by decide +kernel
theorem dX4_stop_0 : decode cX4_stop 0 = .ok (.aload_n 0, 1) := by decide +kernel
theorem dX4_stop_1 : decode cX4_stop 1 = .ok (.invokevirtual 34, 3) := by decide +kernel
theorem dX4_stop_4 : decode cX4_stop 4 = .ok (.aload_n 0, 1) := by decide +kernel
theorem dX4_stop_5 : decode cX4_stop 5 = .ok (.getfield 37, 3) := by decide +kernel
theorem dX4_stop_8 : decode cX4_stop 8 = .ok (.iconst 3, 1) := by decide +kernel
theorem dX4_stop_9 : decode cX4_stop 9 = .ok (.if_icmp .ne 7, 3) := by decide +kernel
theorem dX4_stop_12 : decode cX4_stop 12 = .ok (.iconst 1, 1) := by decide +kernel
theorem dX4_stop_13 : decode cX4_stop 13 = .ok (.goto 4, 3) := by decide +kernel
theorem dX4_stop_16 : decode cX4_stop 16 = .ok (.iconst 0, 1) := by decide +kernel
theorem dX4_stop_17 : decode cX4_stop 17 = .ok (.ireturn, 1) := by decide +kernel
theorem dX4_step_0 : decode cX4_step 0 = .ok (.aload_n 0, 1) := by decide +kernel
theorem dX4_step_1 : decode cX4_step 1 = .ok (.getfield 31, 3) := by decide +kernel
theorem dX4_step_4 : decode cX4_step 4 = .ok (.aload_n 0, 1) := by decide +kernel
theorem dX4_step_5 : decode cX4_step 5 = .ok (.getfield 15, 3) := by decide +kernel
theorem dX4_step_8 : decode cX4_step 8 = .ok (.if_icmp .ge 30, 3) := by decide +kernel
theorem dX4_step_11 : decode cX4_step 11 = .ok (.aload_n 0, 1) := by decide +kernel
theorem dX4_step_12 : decode cX4_step 12 = .ok (.getfield 11, 3) := by decide +kernel
theorem dX4_step_15 : decode cX4_step 15 = .ok (.aload_n 0, 1) := by decide +kernel
theorem dX4_step_16 : decode cX4_step 16 = .ok (.getfield 31, 3) := by decide +kernel
theorem dX4_step_19 : decode cX4_step 19 = .ok (.iaload, 1) := by decide +kernel
theorem dX4_step_20 : decode cX4_step 20 = .ok (.bipush 32, 2) := by decide +kernel
theorem dX4_step_22 : decode cX4_step 22 = .ok (.if_icmp .ne 16, 3) := by decide +kernel
theorem dX4_step_25 : decode cX4_step 25 = .ok (.aload_n 0, 1) := by decide +kernel
theorem dX4_step_26 : decode cX4_step 26 = .ok (.dup, 1) := by decide +kernel
theorem dX4_step_27 : decode cX4_step 27 = .ok (.getfield 31, 3) := by decide +kernel
theorem dX4_step_30 : decode cX4_step 30 = .ok (.iconst 1, 1) := by decide +kernel
theorem dX4_step_31 : decode cX4_step 31 = .ok (.iadd, 1) := by decide +kernel
theorem dX4_step_32 : decode cX4_step 32 = .ok (.putfield 31, 3) := by decide +kernel
theorem dX4_step_35 : decode cX4_step 35 = .ok (.goto (-35), 3) := by decide +kernel
theorem dX4_step_38 : decode cX4_step 38 = .ok (.aload_n 0, 1) := by decide +kernel
theorem dX4_step_39 : decode cX4_step 39 = .ok (.aload_n 0, 1) := by decide +kernel
theorem dX4_step_40 : decode cX4_step 40 = .ok (.getfield 31, 3) := by decide +kernel
theorem dX4_step_43 : decode cX4_step 43 = .ok (.putfield 44, 3) := by decide +kernel
theorem dX4_step_46 : decode cX4_step 46 = .ok (.aload_n 0, 1) := by decide +kernel
theorem dX4_step_47 : decode cX4_step 47 = .ok (.getfield 31, 3) := by decide +kernel
theorem dX4_step_50 : decode cX4_step 50 = .ok (.aload_n 0, 1) := by decide +kernel
theorem dX4_step_51 : decode cX4_step 51 = .ok (.getfield 15, 3) := by decide +kernel
theorem dX4_step_54 : decode cX4_step 54 = .ok (.if_icmp .lt 11, 3) := by decide +kernel
theorem dX4_step_57 : decode cX4_step 57 = .ok (.aload_n 0, 1) := by decide +kernel
theorem dX4_step_58 : decode cX4_step 58 = .ok (.iconst 0, 1) := by decide +kernel
theorem dX4_step_59 : decode cX4_step 59 = .ok (.putfield 37, 3) := by decide +kernel
theorem dX4_step_62 : decode cX4_step 62 = .ok (.goto 106, 3) := by decide +kernel
theorem dX4_step_65 : decode cX4_step 65 = .ok (.aload_n 0, 1) := by decide +kernel
theorem dX4_step_66 : decode cX4_step 66 = .ok (.getfield 11, 3) := by decide +kernel
theorem dX4_step_69 : decode cX4_step 69 = .ok (.aload_n 0, 1) := by decide +kernel
theorem dX4_step_70 : decode cX4_step 70 = .ok (.getfield 31, 3) := by decide +kernel
theorem dX4_step_73 : decode cX4_step 73 = .ok (.iaload, 1) := by decide +kernel
theorem dX4_step_74 : decode cX4_step 74 = .ok (.bipush 97, 2) := by decide +kernel
theorem dX4_step_76 : decode cX4_step 76 = .ok (.if_icmp .lt 24, 3) := by decide +kernel
theorem dX4_step_79 : decode cX4_step 79 = .ok (.aload_n 0, 1) := by decide +kernel
theorem dX4_step_80 : decode cX4_step 80 = .ok (.getfield 11, 3) := by decide +kernel
theorem dX4_step_83 : decode cX4_step 83 = .ok (.aload_n 0, 1) := by decide +kernel
theorem dX4_step_84 : decode cX4_step 84 = .ok (.getfield 31, 3) := by decide +kernel
theorem dX4_step_87 : decode cX4_step 87 = .ok (.iaload, 1) := by decide +kernel
theorem dX4_step_88 : decode cX4_step 88 = .ok (.bipush 122, 2) := by decide +kernel
theorem dX4_step_90 : decode cX4_step 90 = .ok (.if_icmp .gt 10, 3) := by decide +kernel
theorem dX4_step_93 : decode cX4_step 93 = .ok (.aload_n 0, 1) := by decide +kernel
theorem dX4_step_94 : decode cX4_step 94 = .ok (.invokevirtual 93, 3) := by decide +kernel
theorem dX4_step_97 : decode cX4_step 97 = .ok (.goto 71, 3) := by decide +kernel
theorem dX4_step_100 : decode cX4_step 100 = .ok (.aload_n 0, 1) := by decide +kernel
theorem dX4_step_101 : decode cX4_step 101 = .ok (.getfield 11, 3) := by decide +kernel
theorem dX4_step_104 : decode cX4_step 104 = .ok (.aload_n 0, 1) := by decide +kernel
theorem dX4_step_105 : decode cX4_step 105 = .ok (.getfield 31, 3) := by decide +kernel
theorem dX4_step_108 : decode cX4_step 108 = .ok (.iaload, 1) := by decide +kernel
theorem dX4_step_109 : decode cX4_step 109 = .ok (.bipush 48, 2) := by decide +kernel
theorem dX4_step_111 : decode cX4_step 111 = .ok (.if_icmp .lt 24, 3) := by decide +kernel
theorem dX4_step_114 : decode cX4_step 114 = .ok (.aload_n 0, 1) := by decide +kernel
theorem dX4_step_115 : decode cX4_step 115 = .ok (.getfield 11, 3) := by decide +kernel
theorem dX4_step_118 : decode cX4_step 118 = .ok (.aload_n 0, 1) := by decide +kernel
theorem dX4_step_119 : decode cX4_step 119 = .ok (.getfield 31, 3) := by decide +kernel
theorem dX4_step_122 : decode cX4_step 122 = .ok (.iaload, 1) := by decide +kernel
theorem dX4_step_123 : decode cX4_step 123 = .ok (.bipush 57, 2) := by decide +kernel
theorem dX4_step_125 : decode cX4_step 125 = .ok (.if_icmp .gt 10, 3) := by decide +kernel
theorem dX4_step_128 : decode cX4_step 128 = .ok (.aload_n 0, 1) := by decide +kernel
theorem dX4_step_129 : decode cX4_step 129 = .ok (.invokevirtual 96, 3) := by decide +kernel
theorem dX4_step_132 : decode cX4_step 132 = .ok (.goto 36, 3) := by decide +kernel
theorem dX4_step_135 : decode cX4_step 135 = .ok (.aload_n 0, 1) := by decide +kernel
theorem dX4_step_136 : decode cX4_step 136 = .ok (.aload_n 0, 1) := by decide +kernel
theorem dX4_step_137 : decode cX4_step 137 = .ok (.getfield 11, 3) := by decide +kernel
theorem dX4_step_140 : decode cX4_step 140 = .ok (.aload_n 0, 1) := by decide +kernel
theorem dX4_step_141 : decode cX4_step 141 = .ok (.getfield 31, 3) := by decide +kernel
theorem dX4_step_144 : decode cX4_step 144 = .ok (.iaload, 1) := by decide +kernel
theorem dX4_step_145 : decode cX4_step 145 = .ok (.bipush 59, 2) := by decide +kernel
theorem dX4_step_147 : decode cX4_step 147 = .ok (.if_icmp .ne 7, 3) := by decide +kernel
theorem dX4_step_150 : decode cX4_step 150 = .ok (.iconst 3, 1) := by decide +kernel
theorem dX4_step_151 : decode cX4_step 151 = .ok (.goto 4, 3) := by decide +kernel
theorem dX4_step_154 : decode cX4_step 154 = .ok (.iconst 4, 1) := by decide +kernel
theorem dX4_step_155 : decode cX4_step 155 = .ok (.putfield 37, 3) := by decide +kernel
theorem dX4_step_158 : decode cX4_step 158 = .ok (.aload_n 0, 1) := by decide +kernel
theorem dX4_step_159 : decode cX4_step 159 = .ok (.dup, 1) := by decide +kernel
theorem dX4_step_160 : decode cX4_step 160 = .ok (.getfield 31, 3) := by decide +kernel
theorem dX4_step_163 : decode cX4_step 163 = .ok (.iconst 1, 1) := by decide +kernel
theorem dX4_step_164 : decode cX4_step 164 = .ok (.iadd, 1) := by decide +kernel
theorem dX4_step_165 : decode cX4_step 165 = .ok (.putfield 31, 3) := by decide +kernel
theorem dX4_step_168 : decode cX4_step 168 = .ok (.return_, 1) := by decide +kernel
theorem dX4_letters_0 : decode cX4_letters 0 = .ok (.aload_n 0, 1) := by decide +kernel
theorem dX4_letters_1 : decode cX4_letters 1 = .ok (.aload_n 0, 1) := by decide +kernel
theorem dX4_letters_2 : decode cX4_letters 2 = .ok (.getfield 11, 3) := by decide +kernel
theorem dX4_letters_5 : decode cX4_letters 5 = .ok (.aload_n 0, 1) := by decide +kernel
theorem dX4_letters_6 : decode cX4_letters 6 = .ok (.getfield 44, 3) := by decide +kernel
theorem dX4_letters_9 : decode cX4_letters 9 = .ok (.iaload, 1) := by decide +kernel
theorem dX4_letters_10 : decode cX4_letters 10 = .ok (.putfield 47, 3) := by decide +kernel
theorem dX4_letters_13 : decode cX4_letters 13 = .ok (.aload_n 0, 1) := by decide +kernel
theorem dX4_letters_14 : decode cX4_letters 14 = .ok (.getfield 31, 3) := by decide +kernel
theorem dX4_letters_17 : decode cX4_letters 17 = .ok (.aload_n 0, 1) := by decide +kernel
theorem dX4_letters_18 : decode cX4_letters 18 = .ok (.getfield 15, 3) := by decide +kernel
theorem dX4_letters_21 : decode cX4_letters 21 = .ok (.if_icmp .ge 44, 3) := by decide +kernel
theorem dX4_letters_24 : decode cX4_letters 24 = .ok (.aload_n 0, 1) := by decide +kernel
theorem dX4_letters_25 : decode cX4_letters 25 = .ok (.getfield 11, 3) := by decide +kernel
theorem dX4_letters_28 : decode cX4_letters 28 = .ok (.aload_n 0, 1) := by decide +kernel
theorem dX4_letters_29 : decode cX4_letters 29 = .ok (.getfield 31, 3) := by decide +kernel
theorem dX4_letters_32 : decode cX4_letters 32 = .ok (.iaload, 1) := by decide +kernel
theorem dX4_letters_33 : decode cX4_letters 33 = .ok (.bipush 97, 2) := by decide +kernel
theorem dX4_letters_35 : decode cX4_letters 35 = .ok (.if_icmp .lt 30, 3) := by decide +kernel
theorem dX4_letters_38 : decode cX4_letters 38 = .ok (.aload_n 0, 1) := by decide +kernel
theorem dX4_letters_39 : decode cX4_letters 39 = .ok (.getfield 11, 3) := by decide +kernel
theorem dX4_letters_42 : decode cX4_letters 42 = .ok (.aload_n 0, 1) := by decide +kernel
theorem dX4_letters_43 : decode cX4_letters 43 = .ok (.getfield 31, 3) := by decide +kernel
theorem dX4_letters_46 : decode cX4_letters 46 = .ok (.iaload, 1) := by decide +kernel
theorem dX4_letters_47 : decode cX4_letters 47 = .ok (.bipush 122, 2) := by decide +kernel
theorem dX4_letters_49 : decode cX4_letters 49 = .ok (.if_icmp .gt 16, 3) := by decide +kernel
theorem dX4_letters_52 : decode cX4_letters 52 = .ok (.aload_n 0, 1) := by decide +kernel
theorem dX4_letters_53 : decode cX4_letters 53 = .ok (.dup, 1) := by decide +kernel
theorem dX4_letters_54 : decode cX4_letters 54 = .ok (.getfield 31, 3) := by decide +kernel
theorem dX4_letters_57 : decode cX4_letters 57 = .ok (.iconst 1, 1) := by decide +kernel
theorem dX4_letters_58 : decode cX4_letters 58 = .ok (.iadd, 1) := by decide +kernel
theorem dX4_letters_59 : decode cX4_letters 59 = .ok (.putfield 31, 3) := by decide +kernel
theorem dX4_letters_62 : decode cX4_letters 62 = .ok (.goto (-49), 3) := by decide +kernel
theorem dX4_letters_65 : decode cX4_letters 65 = .ok (.aload_n 0, 1) := by decide +kernel
theorem dX4_letters_66 : decode cX4_letters 66 = .ok (.aload_n 0, 1) := by decide +kernel
theorem dX4_letters_67 : decode cX4_letters 67 = .ok (.getfield 31, 3) := by decide +kernel
theorem dX4_letters_70 : decode cX4_letters 70 = .ok (.aload_n 0, 1) := by decide +kernel
theorem dX4_letters_71 : decode cX4_letters 71 = .ok (.getfield 44, 3) := by decide +kernel
theorem dX4_letters_74 : decode cX4_letters 74 = .ok (.isub, 1) := by decide +kernel
theorem dX4_letters_75 : decode cX4_letters 75 = .ok (.iconst 1, 1) := by decide +kernel
theorem dX4_letters_76 : decode cX4_letters 76 = .ok (.if_icmp .ne 7, 3) := by decide +kernel
theorem dX4_letters_79 : decode cX4_letters 79 = .ok (.iconst 1, 1) := by decide +kernel
theorem dX4_letters_80 : decode cX4_letters 80 = .ok (.goto 4, 3) := by decide +kernel
theorem dX4_letters_83 : decode cX4_letters 83 = .ok (.iconst 4, 1) := by decide +kernel
theorem dX4_letters_84 : decode cX4_letters 84 = .ok (.putfield 37, 3) := by decide +kernel
theorem dX4_letters_87 : decode cX4_letters 87 = .ok (.return_, 1) := by decide +kernel
theorem dX4_digits_0 : decode cX4_digits 0 = .ok (.aload_n 0, 1) := by decide +kernel
theorem dX4_digits_1 : decode cX4_digits 1 = .ok (.iconst 0, 1) := by decide +kernel
theorem dX4_digits_2 : decode cX4_digits 2 = .ok (.putfield 47, 3) := by decide +kernel
theorem dX4_digits_5 : decode cX4_digits 5 = .ok (.aload_n 0, 1) := by decide +kernel
theorem dX4_digits_6 : decode cX4_digits 6 = .ok (.getfield 31, 3) := by decide +kernel
theorem dX4_digits_9 : decode cX4_digits 9 = .ok (.aload_n 0, 1) := by decide +kernel
theorem dX4_digits_10 : decode cX4_digits 10 = .ok (.getfield 15, 3) := by decide +kernel
theorem dX4_digits_13 : decode cX4_digits 13 = .ok (.if_icmp .ge 84, 3) := by decide +kernel
theorem dX4_digits_16 : decode cX4_digits 16 = .ok (.aload_n 0, 1) := by decide +kernel
theorem dX4_digits_17 : decode cX4_digits 17 = .ok (.getfield 11, 3) := by decide +kernel
theorem dX4_digits_20 : decode cX4_digits 20 = .ok (.aload_n 0, 1) := by decide +kernel
theorem dX4_digits_21 : decode cX4_digits 21 = .ok (.getfield 31, 3) := by decide +kernel
theorem dX4_digits_24 : decode cX4_digits 24 = .ok (.iaload, 1) := by decide +kernel
theorem dX4_digits_25 : decode cX4_digits 25 = .ok (.bipush 48, 2) := by decide +kernel
theorem dX4_digits_27 : decode cX4_digits 27 = .ok (.if_icmp .lt 70, 3) := by decide +kernel
theorem dX4_digits_30 : decode cX4_digits 30 = .ok (.aload_n 0, 1) := by decide +kernel
theorem dX4_digits_31 : decode cX4_digits 31 = .ok (.getfield 11, 3) := by decide +kernel
theorem dX4_digits_34 : decode cX4_digits 34 = .ok (.aload_n 0, 1) := by decide +kernel
theorem dX4_digits_35 : decode cX4_digits 35 = .ok (.getfield 31, 3) := by decide +kernel
theorem dX4_digits_38 : decode cX4_digits 38 = .ok (.iaload, 1) := by decide +kernel
theorem dX4_digits_39 : decode cX4_digits 39 = .ok (.bipush 57, 2) := by decide +kernel
theorem dX4_digits_41 : decode cX4_digits 41 = .ok (.if_icmp .gt 56, 3) := by decide +kernel
theorem dX4_digits_44 : decode cX4_digits 44 = .ok (.aload_n 0, 1) := by decide +kernel
theorem dX4_digits_45 : decode cX4_digits 45 = .ok (.aload_n 0, 1) := by decide +kernel
theorem dX4_digits_46 : decode cX4_digits 46 = .ok (.getfield 47, 3) := by decide +kernel
theorem dX4_digits_49 : decode cX4_digits 49 = .ok (.bipush 99, 2) := by decide +kernel
theorem dX4_digits_51 : decode cX4_digits 51 = .ok (.if_icmp .le 10, 3) := by decide +kernel
theorem dX4_digits_54 : decode cX4_digits 54 = .ok (.aload_n 0, 1) := by decide +kernel
theorem dX4_digits_55 : decode cX4_digits 55 = .ok (.getfield 47, 3) := by decide +kernel
theorem dX4_digits_58 : decode cX4_digits 58 = .ok (.goto 23, 3) := by decide +kernel
theorem dX4_digits_61 : decode cX4_digits 61 = .ok (.aload_n 0, 1) := by decide +kernel
theorem dX4_digits_62 : decode cX4_digits 62 = .ok (.getfield 47, 3) := by decide +kernel
theorem dX4_digits_65 : decode cX4_digits 65 = .ok (.bipush 10, 2) := by decide +kernel
theorem dX4_digits_67 : decode cX4_digits 67 = .ok (.imul, 1) := by decide +kernel
theorem dX4_digits_68 : decode cX4_digits 68 = .ok (.aload_n 0, 1) := by decide +kernel
theorem dX4_digits_69 : decode cX4_digits 69 = .ok (.getfield 11, 3) := by decide +kernel
theorem dX4_digits_72 : decode cX4_digits 72 = .ok (.aload_n 0, 1) := by decide +kernel
theorem dX4_digits_73 : decode cX4_digits 73 = .ok (.getfield 31, 3) := by decide +kernel
theorem dX4_digits_76 : decode cX4_digits 76 = .ok (.iaload, 1) := by decide +kernel
theorem dX4_digits_77 : decode cX4_digits 77 = .ok (.iadd, 1) := by decide +kernel
theorem dX4_digits_78 : decode cX4_digits 78 = .ok (.bipush 48, 2) := by decide +kernel
theorem dX4_digits_80 : decode cX4_digits 80 = .ok (.isub, 1) := by decide +kernel
theorem dX4_digits_81 : decode cX4_digits 81 = .ok (.putfield 47, 3) := by decide +kernel
theorem dX4_digits_84 : decode cX4_digits 84 = .ok (.aload_n 0, 1) := by decide +kernel
theorem dX4_digits_85 : decode cX4_digits 85 = .ok (.dup, 1) := by decide +kernel
theorem dX4_digits_86 : decode cX4_digits 86 = .ok (.getfield 31, 3) := by decide +kernel
theorem dX4_digits_89 : decode cX4_digits 89 = .ok (.iconst 1, 1) := by decide +kernel
theorem dX4_digits_90 : decode cX4_digits 90 = .ok (.iadd, 1) := by decide +kernel
theorem dX4_digits_91 : decode cX4_digits 91 = .ok (.putfield 31, 3) := by decide +kernel
theorem dX4_digits_94 : decode cX4_digits 94 = .ok (.goto (-89), 3) := by decide +kernel
theorem dX4_digits_97 : decode cX4_digits 97 = .ok (.aload_n 0, 1) := by decide +kernel
theorem dX4_digits_98 : decode cX4_digits 98 = .ok (.getfield 11, 3) := by decide +kernel
theorem dX4_digits_101 : decode cX4_digits 101 = .ok (.aload_n 0, 1) := by decide +kernel
theorem dX4_digits_102 : decode cX4_digits 102 = .ok (.getfield 44, 3) := by decide +kernel
theorem dX4_digits_105 : decode cX4_digits 105 = .ok (.iaload, 1) := by decide +kernel
theorem dX4_digits_106 : decode cX4_digits 106 = .ok (.bipush 48, 2) := by decide +kernel
theorem dX4_digits_108 : decode cX4_digits 108 = .ok (.if_icmp .ne 20, 3) := by decide +kernel
theorem dX4_digits_111 : decode cX4_digits 111 = .ok (.aload_n 0, 1) := by decide +kernel
theorem dX4_digits_112 : decode cX4_digits 112 = .ok (.getfield 31, 3) := by decide +kernel
theorem dX4_digits_115 : decode cX4_digits 115 = .ok (.aload_n 0, 1) := by decide +kernel
theorem dX4_digits_116 : decode cX4_digits 116 = .ok (.getfield 44, 3) := by decide +kernel
theorem dX4_digits_119 : decode cX4_digits 119 = .ok (.isub, 1) := by decide +kernel
theorem dX4_digits_120 : decode cX4_digits 120 = .ok (.iconst 1, 1) := by decide +kernel
theorem dX4_digits_121 : decode cX4_digits 121 = .ok (.if_icmp .le 7, 3) := by decide +kernel
theorem dX4_digits_124 : decode cX4_digits 124 = .ok (.iconst 1, 1) := by decide +kernel
theorem dX4_digits_125 : decode cX4_digits 125 = .ok (.goto 4, 3) := by decide +kernel
theorem dX4_digits_128 : decode cX4_digits 128 = .ok (.iconst 0, 1) := by decide +kernel
theorem dX4_digits_129 : decode cX4_digits 129 = .ok (.istore_n 1, 1) := by decide +kernel
theorem dX4_digits_130 : decode cX4_digits 130 = .ok (.aload_n 0, 1) := by decide +kernel
theorem dX4_digits_131 : decode cX4_digits 131 = .ok (.aload_n 0, 1) := by decide +kernel
theorem dX4_digits_132 : decode cX4_digits 132 = .ok (.getfield 47, 3) := by decide +kernel
theorem dX4_digits_135 : decode cX4_digits 135 = .ok (.bipush 99, 2) := by decide +kernel
theorem dX4_digits_137 : decode cX4_digits 137 = .ok (.if_icmp .gt 7, 3) := by decide +kernel
theorem dX4_digits_140 : decode cX4_digits 140 = .ok (.iload_n 1, 1) := by decide +kernel
theorem dX4_digits_141 : decode cX4_digits 141 = .ok (.ifCond .eq 7, 3) := by decide +kernel
theorem dX4_digits_144 : decode cX4_digits 144 = .ok (.iconst 4, 1) := by decide +kernel
theorem dX4_digits_145 : decode cX4_digits 145 = .ok (.goto 4, 3) := by decide +kernel
theorem dX4_digits_148 : decode cX4_digits 148 = .ok (.iconst 2, 1) := by decide +kernel
theorem dX4_digits_149 : decode cX4_digits 149 = .ok (.putfield 37, 3) := by decide +kernel
theorem dX4_digits_152 : decode cX4_digits 152 = .ok (.return_, 1) := by decide +kernel
theorem dX5_init_0 : decode cX5_init 0 = .ok (.aload_n 0, 1) := by decide +kernel
theorem dX5_init_1 : decode cX5_init 1 = .ok (.invokespecial 3, 3) := by decide +kernel
theorem dX5_init_4 : decode cX5_init 4 = .ok (.aload_n 0, 1) := by decide +kernel
theorem dX5_init_5 : decode cX5_init 5 = .ok (.new 9, 3) := by decide +kernel
theorem dX5_init_8 : decode cX5_init 8 = .ok (.dup, 1) := by decide +kernel
theorem dX5_init_9 : decode cX5_init 9 = .ok (.invokespecial 11, 3) := by decide +kernel
theorem dX5_init_12 : decode cX5_init 12 = .ok (.putfield 12, 3) := by decide +kernel
theorem dX5_init_15 : decode cX5_init 15 = .ok (.aload_n 0, 1) := by decide +kernel
theorem dX5_init_16 : decode cX5_init 16 = .ok (.new 18, 3) := by decide +kernel
theorem dX5_init_19 : decode cX5_init 19 = .ok (.dup, 1) := by decide +kernel
theorem dX5_init_20 : decode cX5_init 20 = .ok (.invokespecial 20, 3) := by decide +kernel
theorem dX5_init_23 : decode cX5_init 23 = .ok (.putfield 21, 3) := by decide +kernel
theorem dX5_init_26 : decode cX5_init 26 = .ok (.return_, 1) := by decide +kernel
theorem dX5_paneAt_0 : decode cX5_paneAt 0 = .ok (.iload_n 1, 1) := by decide +kernel
theorem dX5_paneAt_1 : decode cX5_paneAt 1 = .ok (.ifCond .lt 33, 3) := by decide +kernel
theorem dX5_paneAt_4 : decode cX5_paneAt 4 = .ok (.iload_n 1, 1) := by decide +kernel
theorem dX5_paneAt_5 : decode cX5_paneAt 5 = .ok (.aload_n 0, 1) := by decide +kernel
theorem dX5_paneAt_6 : decode cX5_paneAt 6 = .ok (.getfield 21, 3) := by decide +kernel
theorem dX5_paneAt_9 : decode cX5_paneAt 9 = .ok (.getfield 25, 3) := by decide +kernel
theorem dX5_paneAt_12 : decode cX5_paneAt 12 = .ok (.if_icmp .ge 22, 3) := by decide +kernel
theorem dX5_paneAt_15 : decode cX5_paneAt 15 = .ok (.iload_n 2, 1) := by decide +kernel
theorem dX5_paneAt_16 : decode cX5_paneAt 16 = .ok (.ifCond .lt 18, 3) := by decide +kernel
theorem dX5_paneAt_19 : decode cX5_paneAt 19 = .ok (.iload_n 2, 1) := by decide +kernel
theorem dX5_paneAt_20 : decode cX5_paneAt 20 = .ok (.aload_n 0, 1) := by decide +kernel
theorem dX5_paneAt_21 : decode cX5_paneAt 21 = .ok (.getfield 21, 3) := by decide +kernel
theorem dX5_paneAt_24 : decode cX5_paneAt 24 = .ok (.getfield 29, 3) := by decide +kernel
theorem dX5_paneAt_27 : decode cX5_paneAt 27 = .ok (.if_icmp .ge 7, 3) := by decide +kernel
theorem dX5_paneAt_30 : decode cX5_paneAt 30 = .ok (.iconst 1, 1) := by decide +kernel
theorem dX5_paneAt_31 : decode cX5_paneAt 31 = .ok (.goto 4, 3) := by decide +kernel
theorem dX5_paneAt_34 : decode cX5_paneAt 34 = .ok (.iconst 0, 1) := by decide +kernel
theorem dX5_paneAt_35 : decode cX5_paneAt 35 = .ok (.istore_n 3, 1) := by decide +kernel
theorem dX5_paneAt_36 : decode cX5_paneAt 36 = .ok (.iload_n 3, 1) := by decide +kernel
theorem dX5_paneAt_37 : decode cX5_paneAt 37 = .ok (.ifCond .eq 11, 3) := by decide +kernel
theorem dX5_paneAt_40 : decode cX5_paneAt 40 = .ok (.iconst 4, 1) := by decide +kernel
theorem dX5_paneAt_41 : decode cX5_paneAt 41 = .ok (.iload_n 1, 1) := by decide +kernel
theorem dX5_paneAt_42 : decode cX5_paneAt 42 = .ok (.imul, 1) := by decide +kernel
theorem dX5_paneAt_43 : decode cX5_paneAt 43 = .ok (.iload_n 2, 1) := by decide +kernel
theorem dX5_paneAt_44 : decode cX5_paneAt 44 = .ok (.iadd, 1) := by decide +kernel
theorem dX5_paneAt_45 : decode cX5_paneAt 45 = .ok (.goto 4, 3) := by decide +kernel
theorem dX5_paneAt_48 : decode cX5_paneAt 48 = .ok (.iconst (-1), 1) := by decide +kernel
theorem dX5_paneAt_49 : decode cX5_paneAt 49 = .ok (.ireturn, 1) := by decide +kernel
theorem dX5_hasPane_0 : decode cX5_hasPane 0 = .ok (.aload_n 0, 1) := by decide +kernel
theorem dX5_hasPane_1 : decode cX5_hasPane 1 = .ok (.iload_n 1, 1) := by decide +kernel
theorem dX5_hasPane_2 : decode cX5_hasPane 2 = .ok (.iconst 4, 1) := by decide +kernel
theorem dX5_hasPane_3 : decode cX5_hasPane 3 = .ok (.idiv, 1) := by decide +kernel
theorem dX5_hasPane_4 : decode cX5_hasPane 4 = .ok (.iload_n 1, 1) := by decide +kernel
theorem dX5_hasPane_5 : decode cX5_hasPane 5 = .ok (.iconst 4, 1) := by decide +kernel
theorem dX5_hasPane_6 : decode cX5_hasPane 6 = .ok (.irem, 1) := by decide +kernel
theorem dX5_hasPane_7 : decode cX5_hasPane 7 = .ok (.invokevirtual 32, 3) := by decide +kernel
theorem dX5_hasPane_10 : decode cX5_hasPane 10 = .ok (.iconst (-1), 1) := by decide +kernel
theorem dX5_hasPane_11 : decode cX5_hasPane 11 = .ok (.if_icmp .eq 7, 3) := by decide +kernel
theorem dX5_hasPane_14 : decode cX5_hasPane 14 = .ok (.iconst 1, 1) := by decide +kernel
theorem dX5_hasPane_15 : decode cX5_hasPane 15 = .ok (.goto 4, 3) := by decide +kernel
theorem dX5_hasPane_18 : decode cX5_hasPane 18 = .ok (.iconst 0, 1) := by decide +kernel
theorem dX5_hasPane_19 : decode cX5_hasPane 19 = .ok (.ireturn, 1) := by decide +kernel
theorem dX5_isBroken_0 : decode cX5_isBroken 0 = .ok (.aload_n 0, 1) := by decide +kernel
theorem dX5_isBroken_1 : decode cX5_isBroken 1 = .ok (.getfield 12, 3) := by decide +kernel
theorem dX5_isBroken_4 : decode cX5_isBroken 4 = .ok (.getfield 36, 3) := by decide +kernel
theorem dX5_isBroken_7 : decode cX5_isBroken 7 = .ok (.getfield 40, 3) := by decide +kernel
theorem dX5_isBroken_10 : decode cX5_isBroken 10 = .ok (.iload_n 1, 1) := by decide +kernel
theorem dX5_isBroken_11 : decode cX5_isBroken 11 = .ok (.ishr, 1) := by decide +kernel
theorem dX5_isBroken_12 : decode cX5_isBroken 12 = .ok (.iconst 1, 1) := by decide +kernel
theorem dX5_isBroken_13 : decode cX5_isBroken 13 = .ok (.iand, 1) := by decide +kernel
theorem dX5_isBroken_14 : decode cX5_isBroken 14 = .ok (.ifCond .eq 7, 3) := by decide +kernel
theorem dX5_isBroken_17 : decode cX5_isBroken 17 = .ok (.iconst 1, 1) := by decide +kernel
theorem dX5_isBroken_18 : decode cX5_isBroken 18 = .ok (.goto 4, 3) := by decide +kernel
theorem dX5_isBroken_21 : decode cX5_isBroken 21 = .ok (.iconst 0, 1) := by decide +kernel
theorem dX5_isBroken_22 : decode cX5_isBroken 22 = .ok (.ireturn, 1) := by decide +kernel
theorem dX5_colourNow_0 : decode cX5_colourNow 0 = .ok (.aload_n 0, 1) := by decide +kernel
theorem dX5_colourNow_1 : decode cX5_colourNow 1 = .ok (.iload_n 1, 1) := by decide +kernel
theorem dX5_colourNow_2 : decode cX5_colourNow 2 = .ok (.invokevirtual 45, 3) := by decide +kernel
theorem dX5_colourNow_5 : decode cX5_colourNow 5 = .ok (.ifCond .eq 8, 3) := by decide +kernel
theorem dX5_colourNow_8 : decode cX5_colourNow 8 = .ok (.bipush 7, 2) := by decide +kernel
theorem dX5_colourNow_10 : decode cX5_colourNow 10 = .ok (.goto 12, 3) := by decide +kernel
theorem dX5_colourNow_13 : decode cX5_colourNow 13 = .ok (.aload_n 0, 1) := by decide +kernel
theorem dX5_colourNow_14 : decode cX5_colourNow 14 = .ok (.getfield 21, 3) := by decide +kernel
theorem dX5_colourNow_17 : decode cX5_colourNow 17 = .ok (.getfield 49, 3) := by decide +kernel
theorem dX5_colourNow_20 : decode cX5_colourNow 20 = .ok (.iload_n 1, 1) := by decide +kernel
theorem dX5_colourNow_21 : decode cX5_colourNow 21 = .ok (.iaload, 1) := by decide +kernel
theorem dX5_colourNow_22 : decode cX5_colourNow 22 = .ok (.ireturn, 1) := by decide +kernel
theorem dX5_letsThrough_0 : decode cX5_letsThrough 0 = .ok (.iload_n 1, 1) := by decide +kernel
theorem dX5_letsThrough_1 : decode cX5_letsThrough 1 = .ok (.iconst (-1), 1) := by decide +kernel
theorem dX5_letsThrough_2 : decode cX5_letsThrough 2 = .ok (.if_icmp .ne 7, 3) := by decide +kernel
theorem dX5_letsThrough_5 : decode cX5_letsThrough 5 = .ok (.iconst 0, 1) := by decide +kernel
theorem dX5_letsThrough_6 : decode cX5_letsThrough 6 = .ok (.goto 29, 3) := by decide +kernel
theorem dX5_letsThrough_9 : decode cX5_letsThrough 9 = .ok (.aload_n 0, 1) := by decide +kernel
theorem dX5_letsThrough_10 : decode cX5_letsThrough 10 = .ok (.iload_n 1, 1) := by decide +kernel
theorem dX5_letsThrough_11 : decode cX5_letsThrough 11 = .ok (.invokevirtual 53, 3) := by decide +kernel
theorem dX5_letsThrough_14 : decode cX5_letsThrough 14 = .ok (.aload_n 0, 1) := by decide +kernel
theorem dX5_letsThrough_15 : decode cX5_letsThrough 15 = .ok (.getfield 21, 3) := by decide +kernel
theorem dX5_letsThrough_18 : decode cX5_letsThrough 18 = .ok (.getfield 57, 3) := by decide +kernel
theorem dX5_letsThrough_21 : decode cX5_letsThrough 21 = .ok (.aload_n 0, 1) := by decide +kernel
theorem dX5_letsThrough_22 : decode cX5_letsThrough 22 = .ok (.getfield 12, 3) := by decide +kernel
theorem dX5_letsThrough_25 : decode cX5_letsThrough 25 = .ok (.getfield 36, 3) := by decide +kernel
theorem dX5_letsThrough_28 : decode cX5_letsThrough 28 = .ok (.getfield 60, 3) := by decide +kernel
theorem dX5_letsThrough_31 : decode cX5_letsThrough 31 = .ok (.iload_n 1, 1) := by decide +kernel
theorem dX5_letsThrough_32 : decode cX5_letsThrough 32 = .ok (.iaload, 1) := by decide +kernel
theorem dX5_letsThrough_33 : decode cX5_letsThrough 33 = .ok (.iaload, 1) := by decide +kernel
theorem dX5_letsThrough_34 : decode cX5_letsThrough 34 = .ok (.iand, 1) := by decide +kernel
theorem dX5_letsThrough_35 : decode cX5_letsThrough 35 = .ok (.ireturn, 1) := by decide +kernel
theorem dX5_paneBehind_0 : decode cX5_paneBehind 0 = .ok (.iconst 0, 1) := by decide +kernel
theorem dX5_paneBehind_1 : decode cX5_paneBehind 1 = .ok (.istore_n 2, 1) := by decide +kernel
theorem dX5_paneBehind_2 : decode cX5_paneBehind 2 = .ok (.iload_n 2, 1) := by decide +kernel
theorem dX5_paneBehind_3 : decode cX5_paneBehind 3 = .ok (.bipush 20, 2) := by decide +kernel
theorem dX5_paneBehind_5 : decode cX5_paneBehind 5 = .ok (.if_icmp .ge 30, 3) := by decide +kernel
theorem dX5_paneBehind_8 : decode cX5_paneBehind 8 = .ok (.aload_n 0, 1) := by decide +kernel
theorem dX5_paneBehind_9 : decode cX5_paneBehind 9 = .ok (.getfield 12, 3) := by decide +kernel
theorem dX5_paneBehind_12 : decode cX5_paneBehind 12 = .ok (.getfield 36, 3) := by decide +kernel
theorem dX5_paneBehind_15 : decode cX5_paneBehind 15 = .ok (.getfield 60, 3) := by decide +kernel
theorem dX5_paneBehind_18 : decode cX5_paneBehind 18 = .ok (.iload_n 2, 1) := by decide +kernel
theorem dX5_paneBehind_19 : decode cX5_paneBehind 19 = .ok (.iaload, 1) := by decide +kernel
theorem dX5_paneBehind_20 : decode cX5_paneBehind 20 = .ok (.iload_n 1, 1) := by decide +kernel
theorem dX5_paneBehind_21 : decode cX5_paneBehind 21 = .ok (.ishr, 1) := by decide +kernel
theorem dX5_paneBehind_22 : decode cX5_paneBehind 22 = .ok (.iconst 1, 1) := by decide +kernel
theorem dX5_paneBehind_23 : decode cX5_paneBehind 23 = .ok (.iand, 1) := by decide +kernel
theorem dX5_paneBehind_24 : decode cX5_paneBehind 24 = .ok (.ifCond .eq 5, 3) := by decide +kernel
theorem dX5_paneBehind_27 : decode cX5_paneBehind 27 = .ok (.iload_n 2, 1) := by decide +kernel
theorem dX5_paneBehind_28 : decode cX5_paneBehind 28 = .ok (.ireturn, 1) := by decide +kernel
theorem dX5_paneBehind_29 : decode cX5_paneBehind 29 = .ok (.iinc 2 1, 3) := by decide +kernel
theorem dX5_paneBehind_32 : decode cX5_paneBehind 32 = .ok (.goto (-30), 3) := by decide +kernel
theorem dX5_paneBehind_35 : decode cX5_paneBehind 35 = .ok (.bipush (-9), 2) := by decide +kernel
theorem dX5_paneBehind_37 : decode cX5_paneBehind 37 = .ok (.ireturn, 1) := by decide +kernel
theorem dX5_box_0 : decode cX5_box 0 = .ok (.iconst 0, 1) := by decide +kernel
theorem dX5_box_1 : decode cX5_box 1 = .ok (.istore_n 1, 1) := by decide +kernel
theorem dX5_box_2 : decode cX5_box 2 = .ok (.iconst 0, 1) := by decide +kernel
theorem dX5_box_3 : decode cX5_box 3 = .ok (.istore_n 2, 1) := by decide +kernel
theorem dX5_box_4 : decode cX5_box 4 = .ok (.iload_n 2, 1) := by decide +kernel
theorem dX5_box_5 : decode cX5_box 5 = .ok (.bipush 20, 2) := by decide +kernel
theorem dX5_box_7 : decode cX5_box 7 = .ok (.if_icmp .ge 24, 3) := by decide +kernel
theorem dX5_box_10 : decode cX5_box 10 = .ok (.iload_n 1, 1) := by decide +kernel
theorem dX5_box_11 : decode cX5_box 11 = .ok (.aload_n 0, 1) := by decide +kernel
theorem dX5_box_12 : decode cX5_box 12 = .ok (.getfield 12, 3) := by decide +kernel
theorem dX5_box_15 : decode cX5_box 15 = .ok (.getfield 36, 3) := by decide +kernel
theorem dX5_box_18 : decode cX5_box 18 = .ok (.getfield 60, 3) := by decide +kernel
theorem dX5_box_21 : decode cX5_box 21 = .ok (.iload_n 2, 1) := by decide +kernel
theorem dX5_box_22 : decode cX5_box 22 = .ok (.iaload, 1) := by decide +kernel
theorem dX5_box_23 : decode cX5_box 23 = .ok (.ior, 1) := by decide +kernel
theorem dX5_box_24 : decode cX5_box 24 = .ok (.istore_n 1, 1) := by decide +kernel
theorem dX5_box_25 : decode cX5_box 25 = .ok (.iinc 2 1, 3) := by decide +kernel
theorem dX5_box_28 : decode cX5_box 28 = .ok (.goto (-24), 3) := by decide +kernel
theorem dX5_box_31 : decode cX5_box 31 = .ok (.iconst 1, 1) := by decide +kernel
theorem dX5_box_32 : decode cX5_box 32 = .ok (.aload_n 0, 1) := by decide +kernel
theorem dX5_box_33 : decode cX5_box 33 = .ok (.getfield 21, 3) := by decide +kernel
theorem dX5_box_36 : decode cX5_box 36 = .ok (.getfield 63, 3) := by decide +kernel
theorem dX5_box_39 : decode cX5_box 39 = .ok (.ishl, 1) := by decide +kernel
theorem dX5_box_40 : decode cX5_box 40 = .ok (.iconst 1, 1) := by decide +kernel
theorem dX5_box_41 : decode cX5_box 41 = .ok (.isub, 1) := by decide +kernel
theorem dX5_box_42 : decode cX5_box 42 = .ok (.iload_n 1, 1) := by decide +kernel
theorem dX5_box_43 : decode cX5_box 43 = .ok (.iconst (-1), 1) := by decide +kernel
theorem dX5_box_44 : decode cX5_box 44 = .ok (.ixor, 1) := by decide +kernel
theorem dX5_box_45 : decode cX5_box 45 = .ok (.iand, 1) := by decide +kernel
theorem dX5_box_46 : decode cX5_box 46 = .ok (.ireturn, 1) := by decide +kernel
theorem dX5_roomBefore_0 : decode cX5_roomBefore 0 = .ok (.iload_n 1, 1) := by decide +kernel
theorem dX5_roomBefore_1 : decode cX5_roomBefore 1 = .ok (.iconst (-1), 1) := by decide +kernel
theorem dX5_roomBefore_2 : decode cX5_roomBefore 2 = .ok (.if_icmp .eq 11, 3) := by decide +kernel
theorem dX5_roomBefore_5 : decode cX5_roomBefore 5 = .ok (.aload_n 0, 1) := by decide +kernel
theorem dX5_roomBefore_6 : decode cX5_roomBefore 6 = .ok (.iload_n 1, 1) := by decide +kernel
theorem dX5_roomBefore_7 : decode cX5_roomBefore 7 = .ok (.invokevirtual 45, 3) := by decide +kernel
theorem dX5_roomBefore_10 : decode cX5_roomBefore 10 = .ok (.ifCond .eq 5, 3) := by decide +kernel
theorem dX5_roomBefore_13 : decode cX5_roomBefore 13 = .ok (.iconst 0, 1) := by decide +kernel
theorem dX5_roomBefore_14 : decode cX5_roomBefore 14 = .ok (.ireturn, 1) := by decide +kernel
theorem dX5_roomBefore_15 : decode cX5_roomBefore 15 = .ok (.iconst 3, 1) := by decide +kernel
theorem dX5_roomBefore_16 : decode cX5_roomBefore 16 = .ok (.aload_n 0, 1) := by decide +kernel
theorem dX5_roomBefore_17 : decode cX5_roomBefore 17 = .ok (.getfield 12, 3) := by decide +kernel
theorem dX5_roomBefore_20 : decode cX5_roomBefore 20 = .ok (.getfield 36, 3) := by decide +kernel
theorem dX5_roomBefore_23 : decode cX5_roomBefore 23 = .ok (.getfield 60, 3) := by decide +kernel
theorem dX5_roomBefore_26 : decode cX5_roomBefore 26 = .ok (.iload_n 1, 1) := by decide +kernel
theorem dX5_roomBefore_27 : decode cX5_roomBefore 27 = .ok (.iaload, 1) := by decide +kernel
theorem dX5_roomBefore_28 : decode cX5_roomBefore 28 = .ok (.invokestatic 66, 3) := by decide +kernel
theorem dX5_roomBefore_31 : decode cX5_roomBefore 31 = .ok (.isub, 1) := by decide +kernel
theorem dX5_roomBefore_32 : decode cX5_roomBefore 32 = .ok (.ireturn, 1) := by decide +kernel
theorem dX5_lostAtFirstHour_0 : decode cX5_lostAtFirstHour 0 = .ok (.aload_n 0, 1) := by decide +kernel
theorem dX5_lostAtFirstHour_1 : decode cX5_lostAtFirstHour 1 = .ok (.getfield 21, 3) := by decide +kernel
theorem dX5_lostAtFirstHour_4 : decode cX5_lostAtFirstHour 4 = .ok (.getfield 29, 3) := by decide +kernel
theorem dX5_lostAtFirstHour_7 : decode cX5_lostAtFirstHour 7 = .ok (.iconst 0, 1) := by decide +kernel
theorem dX5_lostAtFirstHour_8 : decode cX5_lostAtFirstHour 8 = .ok (.aload_n 0, 1) := by decide +kernel
theorem dX5_lostAtFirstHour_9 : decode cX5_lostAtFirstHour 9 = .ok (.getfield 21, 3) := by decide +kernel
theorem dX5_lostAtFirstHour_12 : decode cX5_lostAtFirstHour 12 = .ok (.getfield 25, 3) := by decide +kernel
theorem dX5_lostAtFirstHour_15 : decode cX5_lostAtFirstHour 15 = .ok (.iconst 2, 1) := by decide +kernel
theorem dX5_lostAtFirstHour_16 : decode cX5_lostAtFirstHour 16 = .ok (.aload_n 0, 1) := by decide +kernel
theorem dX5_lostAtFirstHour_17 : decode cX5_lostAtFirstHour 17 = .ok (.getfield 12, 3) := by decide +kernel
theorem dX5_lostAtFirstHour_20 : decode cX5_lostAtFirstHour 20 = .ok (.getfield 36, 3) := by decide +kernel
theorem dX5_lostAtFirstHour_23 : decode cX5_lostAtFirstHour 23 = .ok (.getfield 71, 3) := by decide +kernel
theorem dX5_lostAtFirstHour_26 : decode cX5_lostAtFirstHour 26 = .ok (.imul, 1) := by decide +kernel
theorem dX5_lostAtFirstHour_27 : decode cX5_lostAtFirstHour 27 = .ok (.isub, 1) := by decide +kernel
theorem dX5_lostAtFirstHour_28 : decode cX5_lostAtFirstHour 28 = .ok (.invokestatic 74, 3) := by decide +kernel
theorem dX5_lostAtFirstHour_31 : decode cX5_lostAtFirstHour 31 = .ok (.imul, 1) := by decide +kernel
theorem dX5_lostAtFirstHour_32 : decode cX5_lostAtFirstHour 32 = .ok (.ireturn, 1) := by decide +kernel
theorem dX5_paneByItself_0 : decode cX5_paneByItself 0 = .ok (.iload_n 1, 1) := by decide +kernel
theorem dX5_paneByItself_1 : decode cX5_paneByItself 1 = .ok (.bipush 7, 2) := by decide +kernel
theorem dX5_paneByItself_3 : decode cX5_paneByItself 3 = .ok (.idiv, 1) := by decide +kernel
theorem dX5_paneByItself_4 : decode cX5_paneByItself 4 = .ok (.istore_n 3, 1) := by decide +kernel
theorem dX5_paneByItself_5 : decode cX5_paneByItself 5 = .ok (.iload_n 3, 1) := by decide +kernel
theorem dX5_paneByItself_6 : decode cX5_paneByItself 6 = .ok (.aload_n 0, 1) := by decide +kernel
theorem dX5_paneByItself_7 : decode cX5_paneByItself 7 = .ok (.getfield 12, 3) := by decide +kernel
theorem dX5_paneByItself_10 : decode cX5_paneByItself 10 = .ok (.getfield 36, 3) := by decide +kernel
theorem dX5_paneByItself_13 : decode cX5_paneByItself 13 = .ok (.getfield 71, 3) := by decide +kernel
theorem dX5_paneByItself_16 : decode cX5_paneByItself 16 = .ok (.if_icmp .lt 5, 3) := by decide +kernel
theorem dX5_paneByItself_19 : decode cX5_paneByItself 19 = .ok (.iconst (-1), 1) := by decide +kernel
theorem dX5_paneByItself_20 : decode cX5_paneByItself 20 = .ok (.ireturn, 1) := by decide +kernel
theorem dX5_paneByItself_21 : decode cX5_paneByItself 21 = .ok (.aload_n 0, 1) := by decide +kernel
theorem dX5_paneByItself_22 : decode cX5_paneByItself 22 = .ok (.iload_n 3, 1) := by decide +kernel
theorem dX5_paneByItself_23 : decode cX5_paneByItself 23 = .ok (.iload_n 2, 1) := by decide +kernel
theorem dX5_paneByItself_24 : decode cX5_paneByItself 24 = .ok (.isub, 1) := by decide +kernel
theorem dX5_paneByItself_25 : decode cX5_paneByItself 25 = .ok (.iload_n 1, 1) := by decide +kernel
theorem dX5_paneByItself_26 : decode cX5_paneByItself 26 = .ok (.bipush 7, 2) := by decide +kernel
theorem dX5_paneByItself_28 : decode cX5_paneByItself 28 = .ok (.irem, 1) := by decide +kernel
theorem dX5_paneByItself_29 : decode cX5_paneByItself 29 = .ok (.aload_n 0, 1) := by decide +kernel
theorem dX5_paneByItself_30 : decode cX5_paneByItself 30 = .ok (.getfield 12, 3) := by decide +kernel
theorem dX5_paneByItself_33 : decode cX5_paneByItself 33 = .ok (.getfield 36, 3) := by decide +kernel
theorem dX5_paneByItself_36 : decode cX5_paneByItself 36 = .ok (.getfield 79, 3) := by decide +kernel
theorem dX5_paneByItself_39 : decode cX5_paneByItself 39 = .ok (.isub, 1) := by decide +kernel
theorem dX5_paneByItself_40 : decode cX5_paneByItself 40 = .ok (.invokevirtual 32, 3) := by decide +kernel
theorem dX5_paneByItself_43 : decode cX5_paneByItself 43 = .ok (.ireturn, 1) := by decide +kernel
theorem dX5_paneByMirror_0 : decode cX5_paneByMirror 0 = .ok (.iload_n 1, 1) := by decide +kernel
theorem dX5_paneByMirror_1 : decode cX5_paneByMirror 1 = .ok (.bipush 7, 2) := by decide +kernel
theorem dX5_paneByMirror_3 : decode cX5_paneByMirror 3 = .ok (.idiv, 1) := by decide +kernel
theorem dX5_paneByMirror_4 : decode cX5_paneByMirror 4 = .ok (.istore_n 3, 1) := by decide +kernel
theorem dX5_paneByMirror_5 : decode cX5_paneByMirror 5 = .ok (.iload_n 3, 1) := by decide +kernel
theorem dX5_paneByMirror_6 : decode cX5_paneByMirror 6 = .ok (.aload_n 0, 1) := by decide +kernel
theorem dX5_paneByMirror_7 : decode cX5_paneByMirror 7 = .ok (.getfield 12, 3) := by decide +kernel
theorem dX5_paneByMirror_10 : decode cX5_paneByMirror 10 = .ok (.getfield 36, 3) := by decide +kernel
theorem dX5_paneByMirror_13 : decode cX5_paneByMirror 13 = .ok (.getfield 71, 3) := by decide +kernel
theorem dX5_paneByMirror_16 : decode cX5_paneByMirror 16 = .ok (.if_icmp .lt 5, 3) := by decide +kernel
theorem dX5_paneByMirror_19 : decode cX5_paneByMirror 19 = .ok (.iconst (-1), 1) := by decide +kernel
theorem dX5_paneByMirror_20 : decode cX5_paneByMirror 20 = .ok (.ireturn, 1) := by decide +kernel
theorem dX5_paneByMirror_21 : decode cX5_paneByMirror 21 = .ok (.iconst 2, 1) := by decide +kernel
theorem dX5_paneByMirror_22 : decode cX5_paneByMirror 22 = .ok (.aload_n 0, 1) := by decide +kernel
theorem dX5_paneByMirror_23 : decode cX5_paneByMirror 23 = .ok (.getfield 12, 3) := by decide +kernel
theorem dX5_paneByMirror_26 : decode cX5_paneByMirror 26 = .ok (.getfield 36, 3) := by decide +kernel
theorem dX5_paneByMirror_29 : decode cX5_paneByMirror 29 = .ok (.getfield 71, 3) := by decide +kernel
theorem dX5_paneByMirror_32 : decode cX5_paneByMirror 32 = .ok (.imul, 1) := by decide +kernel
theorem dX5_paneByMirror_33 : decode cX5_paneByMirror 33 = .ok (.iconst 1, 1) := by decide +kernel
theorem dX5_paneByMirror_34 : decode cX5_paneByMirror 34 = .ok (.isub, 1) := by decide +kernel
theorem dX5_paneByMirror_35 : decode cX5_paneByMirror 35 = .ok (.iload_n 3, 1) := by decide +kernel
theorem dX5_paneByMirror_36 : decode cX5_paneByMirror 36 = .ok (.isub, 1) := by decide +kernel
theorem dX5_paneByMirror_37 : decode cX5_paneByMirror 37 = .ok (.istore 4, 2) := by decide +kernel
theorem dX5_paneByMirror_39 : decode cX5_paneByMirror 39 = .ok (.aload_n 0, 1) := by decide +kernel
theorem dX5_paneByMirror_40 : decode cX5_paneByMirror 40 = .ok (.iload 4, 2) := by decide +kernel
theorem dX5_paneByMirror_42 : decode cX5_paneByMirror 42 = .ok (.iload_n 2, 1) := by decide +kernel
theorem dX5_paneByMirror_43 : decode cX5_paneByMirror 43 = .ok (.isub, 1) := by decide +kernel
theorem dX5_paneByMirror_44 : decode cX5_paneByMirror 44 = .ok (.iload_n 1, 1) := by decide +kernel
theorem dX5_paneByMirror_45 : decode cX5_paneByMirror 45 = .ok (.bipush 7, 2) := by decide +kernel
theorem dX5_paneByMirror_47 : decode cX5_paneByMirror 47 = .ok (.irem, 1) := by decide +kernel
theorem dX5_paneByMirror_48 : decode cX5_paneByMirror 48 = .ok (.aload_n 0, 1) := by decide +kernel
theorem dX5_paneByMirror_49 : decode cX5_paneByMirror 49 = .ok (.getfield 12, 3) := by decide +kernel
theorem dX5_paneByMirror_52 : decode cX5_paneByMirror 52 = .ok (.getfield 36, 3) := by decide +kernel
theorem dX5_paneByMirror_55 : decode cX5_paneByMirror 55 = .ok (.getfield 79, 3) := by decide +kernel
theorem dX5_paneByMirror_58 : decode cX5_paneByMirror 58 = .ok (.isub, 1) := by decide +kernel
theorem dX5_paneByMirror_59 : decode cX5_paneByMirror 59 = .ok (.invokevirtual 32, 3) := by decide +kernel
theorem dX5_paneByMirror_62 : decode cX5_paneByMirror 62 = .ok (.ireturn, 1) := by decide +kernel
theorem dX5_lightOf_0 : decode cX5_lightOf 0 = .ok (.aload_n 0, 1) := by decide +kernel
theorem dX5_lightOf_1 : decode cX5_lightOf 1 = .ok (.aload_n 0, 1) := by decide +kernel
theorem dX5_lightOf_2 : decode cX5_lightOf 2 = .ok (.iload_n 1, 1) := by decide +kernel
theorem dX5_lightOf_3 : decode cX5_lightOf 3 = .ok (.iload_n 2, 1) := by decide +kernel
theorem dX5_lightOf_4 : decode cX5_lightOf 4 = .ok (.invokevirtual 82, 3) := by decide +kernel
theorem dX5_lightOf_7 : decode cX5_lightOf 7 = .ok (.invokevirtual 85, 3) := by decide +kernel
theorem dX5_lightOf_10 : decode cX5_lightOf 10 = .ok (.aload_n 0, 1) := by decide +kernel
theorem dX5_lightOf_11 : decode cX5_lightOf 11 = .ok (.aload_n 0, 1) := by decide +kernel
theorem dX5_lightOf_12 : decode cX5_lightOf 12 = .ok (.iload_n 1, 1) := by decide +kernel
theorem dX5_lightOf_13 : decode cX5_lightOf 13 = .ok (.iload_n 2, 1) := by decide +kernel
theorem dX5_lightOf_14 : decode cX5_lightOf 14 = .ok (.invokevirtual 88, 3) := by decide +kernel
theorem dX5_lightOf_17 : decode cX5_lightOf 17 = .ok (.invokevirtual 85, 3) := by decide +kernel
theorem dX5_lightOf_20 : decode cX5_lightOf 20 = .ok (.ior, 1) := by decide +kernel
theorem dX5_lightOf_21 : decode cX5_lightOf 21 = .ok (.ireturn, 1) := by decide +kernel
theorem dX5_lightIf_0 : decode cX5_lightIf 0 = .ok (.aload_n 0, 1) := by decide +kernel
theorem dX5_lightIf_1 : decode cX5_lightIf 1 = .ok (.iload_n 1, 1) := by decide +kernel
theorem dX5_lightIf_2 : decode cX5_lightIf 2 = .ok (.iload_n 2, 1) := by decide +kernel
theorem dX5_lightIf_3 : decode cX5_lightIf 3 = .ok (.invokevirtual 82, 3) := by decide +kernel
theorem dX5_lightIf_6 : decode cX5_lightIf 6 = .ok (.istore 5, 2) := by decide +kernel
theorem dX5_lightIf_8 : decode cX5_lightIf 8 = .ok (.aload_n 0, 1) := by decide +kernel
theorem dX5_lightIf_9 : decode cX5_lightIf 9 = .ok (.iload_n 1, 1) := by decide +kernel
theorem dX5_lightIf_10 : decode cX5_lightIf 10 = .ok (.iload_n 2, 1) := by decide +kernel
theorem dX5_lightIf_11 : decode cX5_lightIf 11 = .ok (.invokevirtual 88, 3) := by decide +kernel
theorem dX5_lightIf_14 : decode cX5_lightIf 14 = .ok (.istore 6, 2) := by decide +kernel
theorem dX5_lightIf_16 : decode cX5_lightIf 16 = .ok (.iload 5, 2) := by decide +kernel
theorem dX5_lightIf_18 : decode cX5_lightIf 18 = .ok (.iload_n 3, 1) := by decide +kernel
theorem dX5_lightIf_19 : decode cX5_lightIf 19 = .ok (.if_icmp .ne 8, 3) := by decide +kernel
theorem dX5_lightIf_22 : decode cX5_lightIf 22 = .ok (.iload 4, 2) := by decide +kernel
theorem dX5_lightIf_24 : decode cX5_lightIf 24 = .ok (.goto 9, 3) := by decide +kernel
theorem dX5_lightIf_27 : decode cX5_lightIf 27 = .ok (.aload_n 0, 1) := by decide +kernel
theorem dX5_lightIf_28 : decode cX5_lightIf 28 = .ok (.iload 5, 2) := by decide +kernel
theorem dX5_lightIf_30 : decode cX5_lightIf 30 = .ok (.invokevirtual 85, 3) := by decide +kernel
theorem dX5_lightIf_33 : decode cX5_lightIf 33 = .ok (.iload 6, 2) := by decide +kernel
theorem dX5_lightIf_35 : decode cX5_lightIf 35 = .ok (.iload_n 3, 1) := by decide +kernel
theorem dX5_lightIf_36 : decode cX5_lightIf 36 = .ok (.if_icmp .ne 8, 3) := by decide +kernel
theorem dX5_lightIf_39 : decode cX5_lightIf 39 = .ok (.iload 4, 2) := by decide +kernel
theorem dX5_lightIf_41 : decode cX5_lightIf 41 = .ok (.goto 9, 3) := by decide +kernel
theorem dX5_lightIf_44 : decode cX5_lightIf 44 = .ok (.aload_n 0, 1) := by decide +kernel
theorem dX5_lightIf_45 : decode cX5_lightIf 45 = .ok (.iload 6, 2) := by decide +kernel
theorem dX5_lightIf_47 : decode cX5_lightIf 47 = .ok (.invokevirtual 85, 3) := by decide +kernel
theorem dX5_lightIf_50 : decode cX5_lightIf 50 = .ok (.ior, 1) := by decide +kernel
theorem dX5_lightIf_51 : decode cX5_lightIf 51 = .ok (.ireturn, 1) := by decide +kernel
theorem dX6_init_0 : decode cX6_init 0 = .ok (.aload_n 0, 1) := by decide +kernel
theorem dX6_init_1 : decode cX6_init 1 = .ok (.invokespecial 1, 3) := by decide +kernel
theorem dX6_init_4 : decode cX6_init 4 = .ok (.aload_n 0, 1) := by decide +kernel
theorem dX6_init_5 : decode cX6_init 5 = .ok (.bipush 11, 2) := by decide +kernel
theorem dX6_init_7 : decode cX6_init 7 = .ok (.anewarray 9, 3) := by decide +kernel
theorem dX6_init_10 : decode cX6_init 10 = .ok (.putfield 11, 3) := by decide +kernel
theorem dX6_init_13 : decode cX6_init 13 = .ok (.iconst 0, 1) := by decide +kernel
theorem dX6_init_14 : decode cX6_init 14 = .ok (.istore_n 1, 1) := by decide +kernel
theorem dX6_init_15 : decode cX6_init 15 = .ok (.iload_n 1, 1) := by decide +kernel
theorem dX6_init_16 : decode cX6_init 16 = .ok (.bipush 10, 2) := by decide +kernel
theorem dX6_init_18 : decode cX6_init 18 = .ok (.if_icmp .gt 22, 3) := by decide +kernel
theorem dX6_init_21 : decode cX6_init 21 = .ok (.aload_n 0, 1) := by decide +kernel
theorem dX6_init_22 : decode cX6_init 22 = .ok (.getfield 11, 3) := by decide +kernel
theorem dX6_init_25 : decode cX6_init 25 = .ok (.iload_n 1, 1) := by decide +kernel
theorem dX6_init_26 : decode cX6_init 26 = .ok (.new 9, 3) := by decide +kernel
theorem dX6_init_29 : decode cX6_init 29 = .ok (.dup, 1) := by decide +kernel
theorem dX6_init_30 : decode cX6_init 30 = .ok (.invokespecial 15, 3) := by decide +kernel
theorem dX6_init_33 : decode cX6_init 33 = .ok (.aastore, 1) := by decide +kernel
theorem dX6_init_34 : decode cX6_init 34 = .ok (.iinc 1 1, 3) := by decide +kernel
theorem dX6_init_37 : decode cX6_init 37 = .ok (.goto (-22), 3) := by decide +kernel
theorem dX6_init_40 : decode cX6_init 40 = .ok (.aload_n 0, 1) := by decide +kernel
theorem dX6_init_41 : decode cX6_init 41 = .ok (.aload_n 0, 1) := by decide +kernel
theorem dX6_init_42 : decode cX6_init 42 = .ok (.getfield 11, 3) := by decide +kernel
theorem dX6_init_45 : decode cX6_init 45 = .ok (.iconst 0, 1) := by decide +kernel
theorem dX6_init_46 : decode cX6_init 46 = .ok (.aaload, 1) := by decide +kernel
theorem dX6_init_47 : decode cX6_init 47 = .ok (.putfield 16, 3) := by decide +kernel
theorem dX6_init_50 : decode cX6_init 50 = .ok (.return_, 1) := by decide +kernel
theorem dX6_restart_0 : decode cX6_restart 0 = .ok (.aload_n 0, 1) := by decide +kernel
theorem dX6_restart_1 : decode cX6_restart 1 = .ok (.iconst 0, 1) := by decide +kernel
theorem dX6_restart_2 : decode cX6_restart 2 = .ok (.putfield 20, 3) := by decide +kernel
theorem dX6_restart_5 : decode cX6_restart 5 = .ok (.aload_n 0, 1) := by decide +kernel
theorem dX6_restart_6 : decode cX6_restart 6 = .ok (.aload_n 0, 1) := by decide +kernel
theorem dX6_restart_7 : decode cX6_restart 7 = .ok (.getfield 11, 3) := by decide +kernel
theorem dX6_restart_10 : decode cX6_restart 10 = .ok (.iconst 0, 1) := by decide +kernel
theorem dX6_restart_11 : decode cX6_restart 11 = .ok (.aaload, 1) := by decide +kernel
theorem dX6_restart_12 : decode cX6_restart 12 = .ok (.putfield 16, 3) := by decide +kernel
theorem dX6_restart_15 : decode cX6_restart 15 = .ok (.aload_n 0, 1) := by decide +kernel
theorem dX6_restart_16 : decode cX6_restart 16 = .ok (.getfield 16, 3) := by decide +kernel
theorem dX6_restart_19 : decode cX6_restart 19 = .ok (.getfield 24, 3) := by decide +kernel
theorem dX6_restart_22 : decode cX6_restart 22 = .ok (.iconst 0, 1) := by decide +kernel
theorem dX6_restart_23 : decode cX6_restart 23 = .ok (.invokestatic 28, 3) := by decide +kernel
theorem dX6_restart_26 : decode cX6_restart 26 = .ok (.aload_n 0, 1) := by decide +kernel
theorem dX6_restart_27 : decode cX6_restart 27 = .ok (.getfield 16, 3) := by decide +kernel
theorem dX6_restart_30 : decode cX6_restart 30 = .ok (.iconst 0, 1) := by decide +kernel
theorem dX6_restart_31 : decode cX6_restart 31 = .ok (.putfield 34, 3) := by decide +kernel
theorem dX6_restart_34 : decode cX6_restart 34 = .ok (.aload_n 0, 1) := by decide +kernel
theorem dX6_restart_35 : decode cX6_restart 35 = .ok (.getfield 16, 3) := by decide +kernel
theorem dX6_restart_38 : decode cX6_restart 38 = .ok (.aload_n 1, 1) := by decide +kernel
theorem dX6_restart_39 : decode cX6_restart 39 = .ok (.getfield 37, 3) := by decide +kernel
theorem dX6_restart_42 : decode cX6_restart 42 = .ok (.putfield 42, 3) := by decide +kernel
theorem dX6_restart_45 : decode cX6_restart 45 = .ok (.aload_n 0, 1) := by decide +kernel
theorem dX6_restart_46 : decode cX6_restart 46 = .ok (.getfield 16, 3) := by decide +kernel
theorem dX6_restart_49 : decode cX6_restart 49 = .ok (.aload_n 1, 1) := by decide +kernel
theorem dX6_restart_50 : decode cX6_restart 50 = .ok (.getfield 43, 3) := by decide +kernel
theorem dX6_restart_53 : decode cX6_restart 53 = .ok (.putfield 46, 3) := by decide +kernel
theorem dX6_restart_56 : decode cX6_restart 56 = .ok (.return_, 1) := by decide +kernel
theorem dX6_advance_0 : decode cX6_advance 0 = .ok (.aload_n 0, 1) := by decide +kernel
theorem dX6_advance_1 : decode cX6_advance 1 = .ok (.getfield 20, 3) := by decide +kernel
theorem dX6_advance_4 : decode cX6_advance 4 = .ok (.bipush 10, 2) := by decide +kernel
theorem dX6_advance_6 : decode cX6_advance 6 = .ok (.if_icmp .ge 16, 3) := by decide +kernel
theorem dX6_advance_9 : decode cX6_advance 9 = .ok (.aload_n 0, 1) := by decide +kernel
theorem dX6_advance_10 : decode cX6_advance 10 = .ok (.dup, 1) := by decide +kernel
theorem dX6_advance_11 : decode cX6_advance 11 = .ok (.getfield 20, 3) := by decide +kernel
theorem dX6_advance_14 : decode cX6_advance 14 = .ok (.iconst 1, 1) := by decide +kernel
theorem dX6_advance_15 : decode cX6_advance 15 = .ok (.iadd, 1) := by decide +kernel
theorem dX6_advance_16 : decode cX6_advance 16 = .ok (.putfield 20, 3) := by decide +kernel
theorem dX6_advance_19 : decode cX6_advance 19 = .ok (.goto 7, 3) := by decide +kernel
theorem dX6_advance_22 : decode cX6_advance 22 = .ok (.aload_n 0, 1) := by decide +kernel
theorem dX6_advance_23 : decode cX6_advance 23 = .ok (.invokevirtual 47, 3) := by decide +kernel
theorem dX6_advance_26 : decode cX6_advance 26 = .ok (.aload_n 0, 1) := by decide +kernel
theorem dX6_advance_27 : decode cX6_advance 27 = .ok (.aload_n 0, 1) := by decide +kernel
theorem dX6_advance_28 : decode cX6_advance 28 = .ok (.getfield 11, 3) := by decide +kernel
theorem dX6_advance_31 : decode cX6_advance 31 = .ok (.aload_n 0, 1) := by decide +kernel
theorem dX6_advance_32 : decode cX6_advance 32 = .ok (.getfield 20, 3) := by decide +kernel
theorem dX6_advance_35 : decode cX6_advance 35 = .ok (.aaload, 1) := by decide +kernel
theorem dX6_advance_36 : decode cX6_advance 36 = .ok (.putfield 16, 3) := by decide +kernel
theorem dX6_advance_39 : decode cX6_advance 39 = .ok (.aload_n 0, 1) := by decide +kernel
theorem dX6_advance_40 : decode cX6_advance 40 = .ok (.getfield 16, 3) := by decide +kernel
theorem dX6_advance_43 : decode cX6_advance 43 = .ok (.aload_n 0, 1) := by decide +kernel
theorem dX6_advance_44 : decode cX6_advance 44 = .ok (.getfield 11, 3) := by decide +kernel
theorem dX6_advance_47 : decode cX6_advance 47 = .ok (.aload_n 0, 1) := by decide +kernel
theorem dX6_advance_48 : decode cX6_advance 48 = .ok (.getfield 20, 3) := by decide +kernel
theorem dX6_advance_51 : decode cX6_advance 51 = .ok (.iconst 1, 1) := by decide +kernel
theorem dX6_advance_52 : decode cX6_advance 52 = .ok (.isub, 1) := by decide +kernel
theorem dX6_advance_53 : decode cX6_advance 53 = .ok (.aaload, 1) := by decide +kernel
theorem dX6_advance_54 : decode cX6_advance 54 = .ok (.invokevirtual 50, 3) := by decide +kernel
theorem dX6_advance_57 : decode cX6_advance 57 = .ok (.aload_n 0, 1) := by decide +kernel
theorem dX6_advance_58 : decode cX6_advance 58 = .ok (.getfield 16, 3) := by decide +kernel
theorem dX6_advance_61 : decode cX6_advance 61 = .ok (.areturn, 1) := by decide +kernel
theorem dX6_retreat_0 : decode cX6_retreat 0 = .ok (.aload_n 0, 1) := by decide +kernel
theorem dX6_retreat_1 : decode cX6_retreat 1 = .ok (.dup, 1) := by decide +kernel
theorem dX6_retreat_2 : decode cX6_retreat 2 = .ok (.getfield 20, 3) := by decide +kernel
theorem dX6_retreat_5 : decode cX6_retreat 5 = .ok (.iconst 1, 1) := by decide +kernel
theorem dX6_retreat_6 : decode cX6_retreat 6 = .ok (.isub, 1) := by decide +kernel
theorem dX6_retreat_7 : decode cX6_retreat 7 = .ok (.putfield 20, 3) := by decide +kernel
theorem dX6_retreat_10 : decode cX6_retreat 10 = .ok (.aload_n 0, 1) := by decide +kernel
theorem dX6_retreat_11 : decode cX6_retreat 11 = .ok (.aload_n 0, 1) := by decide +kernel
theorem dX6_retreat_12 : decode cX6_retreat 12 = .ok (.getfield 11, 3) := by decide +kernel
theorem dX6_retreat_15 : decode cX6_retreat 15 = .ok (.aload_n 0, 1) := by decide +kernel
theorem dX6_retreat_16 : decode cX6_retreat 16 = .ok (.getfield 20, 3) := by decide +kernel
theorem dX6_retreat_19 : decode cX6_retreat 19 = .ok (.aaload, 1) := by decide +kernel
theorem dX6_retreat_20 : decode cX6_retreat 20 = .ok (.putfield 16, 3) := by decide +kernel
theorem dX6_retreat_23 : decode cX6_retreat 23 = .ok (.return_, 1) := by decide +kernel
theorem dX6_loseOldest_0 : decode cX6_loseOldest 0 = .ok (.aload_n 0, 1) := by decide +kernel
theorem dX6_loseOldest_1 : decode cX6_loseOldest 1 = .ok (.getfield 11, 3) := by decide +kernel
theorem dX6_loseOldest_4 : decode cX6_loseOldest 4 = .ok (.iconst 0, 1) := by decide +kernel
theorem dX6_loseOldest_5 : decode cX6_loseOldest 5 = .ok (.aaload, 1) := by decide +kernel
theorem dX6_loseOldest_6 : decode cX6_loseOldest 6 = .ok (.astore_n 1, 1) := by decide +kernel
theorem dX6_loseOldest_7 : decode cX6_loseOldest 7 = .ok (.iconst 0, 1) := by decide +kernel
theorem dX6_loseOldest_8 : decode cX6_loseOldest 8 = .ok (.istore_n 2, 1) := by decide +kernel
theorem dX6_loseOldest_9 : decode cX6_loseOldest 9 = .ok (.iload_n 2, 1) := by decide +kernel
theorem dX6_loseOldest_10 : decode cX6_loseOldest 10 = .ok (.bipush 10, 2) := by decide +kernel
theorem dX6_loseOldest_12 : decode cX6_loseOldest 12 = .ok (.if_icmp .ge 23, 3) := by decide +kernel
theorem dX6_loseOldest_15 : decode cX6_loseOldest 15 = .ok (.aload_n 0, 1) := by decide +kernel
theorem dX6_loseOldest_16 : decode cX6_loseOldest 16 = .ok (.getfield 11, 3) := by decide +kernel
theorem dX6_loseOldest_19 : decode cX6_loseOldest 19 = .ok (.iload_n 2, 1) := by decide +kernel
theorem dX6_loseOldest_20 : decode cX6_loseOldest 20 = .ok (.aload_n 0, 1) := by decide +kernel
theorem dX6_loseOldest_21 : decode cX6_loseOldest 21 = .ok (.getfield 11, 3) := by decide +kernel
theorem dX6_loseOldest_24 : decode cX6_loseOldest 24 = .ok (.iload_n 2, 1) := by decide +kernel
theorem dX6_loseOldest_25 : decode cX6_loseOldest 25 = .ok (.iconst 1, 1) := by decide +kernel
theorem dX6_loseOldest_26 : decode cX6_loseOldest 26 = .ok (.iadd, 1) := by decide +kernel
theorem dX6_loseOldest_27 : decode cX6_loseOldest 27 = .ok (.aaload, 1) := by decide +kernel
theorem dX6_loseOldest_28 : decode cX6_loseOldest 28 = .ok (.aastore, 1) := by decide +kernel
theorem dX6_loseOldest_29 : decode cX6_loseOldest 29 = .ok (.iinc 2 1, 3) := by decide +kernel
theorem dX6_loseOldest_32 : decode cX6_loseOldest 32 = .ok (.goto (-23), 3) := by decide +kernel
theorem dX6_loseOldest_35 : decode cX6_loseOldest 35 = .ok (.aload_n 0, 1) := by decide +kernel
theorem dX6_loseOldest_36 : decode cX6_loseOldest 36 = .ok (.getfield 11, 3) := by decide +kernel
theorem dX6_loseOldest_39 : decode cX6_loseOldest 39 = .ok (.bipush 10, 2) := by decide +kernel
theorem dX6_loseOldest_41 : decode cX6_loseOldest 41 = .ok (.aload_n 1, 1) := by decide +kernel
theorem dX6_loseOldest_42 : decode cX6_loseOldest 42 = .ok (.aastore, 1) := by decide +kernel
theorem dX6_loseOldest_43 : decode cX6_loseOldest 43 = .ok (.return_, 1) := by decide +kernel
theorem dX6_become_0 : decode cX6_become 0 = .ok (.aload_n 0, 1) := by decide +kernel
theorem dX6_become_1 : decode cX6_become 1 = .ok (.aload_n 1, 1) := by decide +kernel
theorem dX6_become_2 : decode cX6_become 2 = .ok (.getfield 20, 3) := by decide +kernel
theorem dX6_become_5 : decode cX6_become 5 = .ok (.putfield 20, 3) := by decide +kernel
theorem dX6_become_8 : decode cX6_become 8 = .ok (.iconst 0, 1) := by decide +kernel
theorem dX6_become_9 : decode cX6_become 9 = .ok (.istore_n 2, 1) := by decide +kernel
theorem dX6_become_10 : decode cX6_become 10 = .ok (.iload_n 2, 1) := by decide +kernel
theorem dX6_become_11 : decode cX6_become 11 = .ok (.aload_n 0, 1) := by decide +kernel
theorem dX6_become_12 : decode cX6_become 12 = .ok (.getfield 20, 3) := by decide +kernel
theorem dX6_become_15 : decode cX6_become 15 = .ok (.if_icmp .gt 24, 3) := by decide +kernel
theorem dX6_become_18 : decode cX6_become 18 = .ok (.aload_n 0, 1) := by decide +kernel
theorem dX6_become_19 : decode cX6_become 19 = .ok (.getfield 11, 3) := by decide +kernel
theorem dX6_become_22 : decode cX6_become 22 = .ok (.iload_n 2, 1) := by decide +kernel
theorem dX6_become_23 : decode cX6_become 23 = .ok (.aaload, 1) := by decide +kernel
theorem dX6_become_24 : decode cX6_become 24 = .ok (.aload_n 1, 1) := by decide +kernel
theorem dX6_become_25 : decode cX6_become 25 = .ok (.getfield 11, 3) := by decide +kernel
theorem dX6_become_28 : decode cX6_become 28 = .ok (.iload_n 2, 1) := by decide +kernel
theorem dX6_become_29 : decode cX6_become 29 = .ok (.aaload, 1) := by decide +kernel
theorem dX6_become_30 : decode cX6_become 30 = .ok (.invokevirtual 50, 3) := by decide +kernel
theorem dX6_become_33 : decode cX6_become 33 = .ok (.iinc 2 1, 3) := by decide +kernel
theorem dX6_become_36 : decode cX6_become 36 = .ok (.goto (-26), 3) := by decide +kernel
theorem dX6_become_39 : decode cX6_become 39 = .ok (.aload_n 0, 1) := by decide +kernel
theorem dX6_become_40 : decode cX6_become 40 = .ok (.aload_n 0, 1) := by decide +kernel
theorem dX6_become_41 : decode cX6_become 41 = .ok (.getfield 11, 3) := by decide +kernel
theorem dX6_become_44 : decode cX6_become 44 = .ok (.aload_n 0, 1) := by decide +kernel
theorem dX6_become_45 : decode cX6_become 45 = .ok (.getfield 20, 3) := by decide +kernel
theorem dX6_become_48 : decode cX6_become 48 = .ok (.aaload, 1) := by decide +kernel
theorem dX6_become_49 : decode cX6_become 49 = .ok (.putfield 16, 3) := by decide +kernel
theorem dX6_become_52 : decode cX6_become 52 = .ok (.return_, 1) := by decide +kernel
theorem dX7_init_0 : decode cX7_init 0 = .ok (.aload_n 0, 1) := by decide +kernel
theorem dX7_init_1 : decode cX7_init 1 = .ok (.invokespecial 3, 3) := by decide +kernel
theorem dX7_init_4 : decode cX7_init 4 = .ok (.aload_n 0, 1) := by decide +kernel
theorem dX7_init_5 : decode cX7_init 5 = .ok (.sipush 756, 3) := by decide +kernel
theorem dX7_init_8 : decode cX7_init 8 = .ok (.newarray .int, 2) := by decide +kernel
theorem dX7_init_10 : decode cX7_init 10 = .ok (.putfield 9, 3) := by decide +kernel
theorem dX7_init_13 : decode cX7_init 13 = .ok (.return_, 1) := by decide +kernel
theorem dX7_hoursFrom_0 : decode cX7_hoursFrom 0 = .ok (.bipush 7, 2) := by decide +kernel
theorem dX7_hoursFrom_2 : decode cX7_hoursFrom 2 = .ok (.istore 5, 2) := by decide +kernel
theorem dX7_hoursFrom_4 : decode cX7_hoursFrom 4 = .ok (.iload 5, 2) := by decide +kernel
theorem dX7_hoursFrom_6 : decode cX7_hoursFrom 6 = .ok (.iload_n 3, 1) := by decide +kernel
theorem dX7_hoursFrom_7 : decode cX7_hoursFrom 7 = .ok (.if_icmp .lt 93, 3) := by decide +kernel
theorem dX7_hoursFrom_10 : decode cX7_hoursFrom 10 = .ok (.iconst 0, 1) := by decide +kernel
theorem dX7_hoursFrom_11 : decode cX7_hoursFrom 11 = .ok (.istore 6, 2) := by decide +kernel
theorem dX7_hoursFrom_13 : decode cX7_hoursFrom 13 = .ok (.iload 6, 2) := by decide +kernel
theorem dX7_hoursFrom_15 : decode cX7_hoursFrom 15 = .ok (.bipush 84, 2) := by decide +kernel
theorem dX7_hoursFrom_17 : decode cX7_hoursFrom 17 = .ok (.if_icmp .ge 77, 3) := by decide +kernel
theorem dX7_hoursFrom_20 : decode cX7_hoursFrom 20 = .ok (.aload_n 1, 1) := by decide +kernel
theorem dX7_hoursFrom_21 : decode cX7_hoursFrom 21 = .ok (.iload 6, 2) := by decide +kernel
theorem dX7_hoursFrom_23 : decode cX7_hoursFrom 23 = .ok (.iload 5, 2) := by decide +kernel
theorem dX7_hoursFrom_25 : decode cX7_hoursFrom 25 = .ok (.invokevirtual 15, 3) := by decide +kernel
theorem dX7_hoursFrom_28 : decode cX7_hoursFrom 28 = .ok (.iload 4, 2) := by decide +kernel
theorem dX7_hoursFrom_30 : decode cX7_hoursFrom 30 = .ok (.iand, 1) := by decide +kernel
theorem dX7_hoursFrom_31 : decode cX7_hoursFrom 31 = .ok (.iload 4, 2) := by decide +kernel
theorem dX7_hoursFrom_33 : decode cX7_hoursFrom 33 = .ok (.if_icmp .ne 7, 3) := by decide +kernel
theorem dX7_hoursFrom_36 : decode cX7_hoursFrom 36 = .ok (.iconst 1, 1) := by decide +kernel
theorem dX7_hoursFrom_37 : decode cX7_hoursFrom 37 = .ok (.goto 4, 3) := by decide +kernel
theorem dX7_hoursFrom_40 : decode cX7_hoursFrom 40 = .ok (.iconst 0, 1) := by decide +kernel
theorem dX7_hoursFrom_41 : decode cX7_hoursFrom 41 = .ok (.istore 7, 2) := by decide +kernel
theorem dX7_hoursFrom_43 : decode cX7_hoursFrom 43 = .ok (.aload_n 0, 1) := by decide +kernel
theorem dX7_hoursFrom_44 : decode cX7_hoursFrom 44 = .ok (.getfield 9, 3) := by decide +kernel
theorem dX7_hoursFrom_47 : decode cX7_hoursFrom 47 = .ok (.iload 5, 2) := by decide +kernel
theorem dX7_hoursFrom_49 : decode cX7_hoursFrom 49 = .ok (.bipush 84, 2) := by decide +kernel
theorem dX7_hoursFrom_51 : decode cX7_hoursFrom 51 = .ok (.imul, 1) := by decide +kernel
theorem dX7_hoursFrom_52 : decode cX7_hoursFrom 52 = .ok (.iload 6, 2) := by decide +kernel
theorem dX7_hoursFrom_54 : decode cX7_hoursFrom 54 = .ok (.iadd, 1) := by decide +kernel
theorem dX7_hoursFrom_55 : decode cX7_hoursFrom 55 = .ok (.iload 7, 2) := by decide +kernel
theorem dX7_hoursFrom_57 : decode cX7_hoursFrom 57 = .ok (.ifCond .eq 29, 3) := by decide +kernel
theorem dX7_hoursFrom_60 : decode cX7_hoursFrom 60 = .ok (.iconst 1, 1) := by decide +kernel
theorem dX7_hoursFrom_61 : decode cX7_hoursFrom 61 = .ok (.aload_n 0, 1) := by decide +kernel
theorem dX7_hoursFrom_62 : decode cX7_hoursFrom 62 = .ok (.getfield 9, 3) := by decide +kernel
theorem dX7_hoursFrom_65 : decode cX7_hoursFrom 65 = .ok (.iload 5, 2) := by decide +kernel
theorem dX7_hoursFrom_67 : decode cX7_hoursFrom 67 = .ok (.iconst 1, 1) := by decide +kernel
theorem dX7_hoursFrom_68 : decode cX7_hoursFrom 68 = .ok (.iadd, 1) := by decide +kernel
theorem dX7_hoursFrom_69 : decode cX7_hoursFrom 69 = .ok (.bipush 84, 2) := by decide +kernel
theorem dX7_hoursFrom_71 : decode cX7_hoursFrom 71 = .ok (.imul, 1) := by decide +kernel
theorem dX7_hoursFrom_72 : decode cX7_hoursFrom 72 = .ok (.aload_n 0, 1) := by decide +kernel
theorem dX7_hoursFrom_73 : decode cX7_hoursFrom 73 = .ok (.iload 6, 2) := by decide +kernel
theorem dX7_hoursFrom_75 : decode cX7_hoursFrom 75 = .ok (.iload 5, 2) := by decide +kernel
theorem dX7_hoursFrom_77 : decode cX7_hoursFrom 77 = .ok (.invokevirtual 21, 3) := by decide +kernel
theorem dX7_hoursFrom_80 : decode cX7_hoursFrom 80 = .ok (.iadd, 1) := by decide +kernel
theorem dX7_hoursFrom_81 : decode cX7_hoursFrom 81 = .ok (.iaload, 1) := by decide +kernel
theorem dX7_hoursFrom_82 : decode cX7_hoursFrom 82 = .ok (.iadd, 1) := by decide +kernel
theorem dX7_hoursFrom_83 : decode cX7_hoursFrom 83 = .ok (.goto 4, 3) := by decide +kernel
theorem dX7_hoursFrom_86 : decode cX7_hoursFrom 86 = .ok (.iconst 0, 1) := by decide +kernel
theorem dX7_hoursFrom_87 : decode cX7_hoursFrom 87 = .ok (.iastore, 1) := by decide +kernel
theorem dX7_hoursFrom_88 : decode cX7_hoursFrom 88 = .ok (.iinc 6 1, 3) := by decide +kernel
theorem dX7_hoursFrom_91 : decode cX7_hoursFrom 91 = .ok (.goto (-78), 3) := by decide +kernel
theorem dX7_hoursFrom_94 : decode cX7_hoursFrom 94 = .ok (.iinc 5 (-1), 3) := by decide +kernel
theorem dX7_hoursFrom_97 : decode cX7_hoursFrom 97 = .ok (.goto (-93), 3) := by decide +kernel
theorem dX7_hoursFrom_100 : decode cX7_hoursFrom 100 = .ok (.aload_n 0, 1) := by decide +kernel
theorem dX7_hoursFrom_101 : decode cX7_hoursFrom 101 = .ok (.getfield 9, 3) := by decide +kernel
theorem dX7_hoursFrom_104 : decode cX7_hoursFrom 104 = .ok (.iload_n 3, 1) := by decide +kernel
theorem dX7_hoursFrom_105 : decode cX7_hoursFrom 105 = .ok (.bipush 84, 2) := by decide +kernel
theorem dX7_hoursFrom_107 : decode cX7_hoursFrom 107 = .ok (.imul, 1) := by decide +kernel
theorem dX7_hoursFrom_108 : decode cX7_hoursFrom 108 = .ok (.iload_n 2, 1) := by decide +kernel
theorem dX7_hoursFrom_109 : decode cX7_hoursFrom 109 = .ok (.iadd, 1) := by decide +kernel
theorem dX7_hoursFrom_110 : decode cX7_hoursFrom 110 = .ok (.iaload, 1) := by decide +kernel
theorem dX7_hoursFrom_111 : decode cX7_hoursFrom 111 = .ok (.ireturn, 1) := by decide +kernel
theorem dX7_tileAfter_0 : decode cX7_tileAfter 0 = .ok (.iload_n 1, 1) := by decide +kernel
theorem dX7_tileAfter_1 : decode cX7_tileAfter 1 = .ok (.istore 4, 2) := by decide +kernel
theorem dX7_tileAfter_3 : decode cX7_tileAfter 3 = .ok (.iconst 0, 1) := by decide +kernel
theorem dX7_tileAfter_4 : decode cX7_tileAfter 4 = .ok (.istore 5, 2) := by decide +kernel
theorem dX7_tileAfter_6 : decode cX7_tileAfter 6 = .ok (.iload 5, 2) := by decide +kernel
theorem dX7_tileAfter_8 : decode cX7_tileAfter 8 = .ok (.iload_n 3, 1) := by decide +kernel
theorem dX7_tileAfter_9 : decode cX7_tileAfter 9 = .ok (.if_icmp .ge 21, 3) := by decide +kernel
theorem dX7_tileAfter_12 : decode cX7_tileAfter 12 = .ok (.aload_n 0, 1) := by decide +kernel
theorem dX7_tileAfter_13 : decode cX7_tileAfter 13 = .ok (.iload 4, 2) := by decide +kernel
theorem dX7_tileAfter_15 : decode cX7_tileAfter 15 = .ok (.iload_n 2, 1) := by decide +kernel
theorem dX7_tileAfter_16 : decode cX7_tileAfter 16 = .ok (.iload 5, 2) := by decide +kernel
theorem dX7_tileAfter_18 : decode cX7_tileAfter 18 = .ok (.iadd, 1) := by decide +kernel
theorem dX7_tileAfter_19 : decode cX7_tileAfter 19 = .ok (.invokevirtual 21, 3) := by decide +kernel
theorem dX7_tileAfter_22 : decode cX7_tileAfter 22 = .ok (.istore 4, 2) := by decide +kernel
theorem dX7_tileAfter_24 : decode cX7_tileAfter 24 = .ok (.iinc 5 1, 3) := by decide +kernel
theorem dX7_tileAfter_27 : decode cX7_tileAfter 27 = .ok (.goto (-21), 3) := by decide +kernel
theorem dX7_tileAfter_30 : decode cX7_tileAfter 30 = .ok (.iload 4, 2) := by decide +kernel
theorem dX7_tileAfter_32 : decode cX7_tileAfter 32 = .ok (.ireturn, 1) := by decide +kernel
theorem dX7_onward_0 : decode cX7_onward 0 = .ok (.iload_n 1, 1) := by decide +kernel
theorem dX7_onward_1 : decode cX7_onward 1 = .ok (.bipush 7, 2) := by decide +kernel
theorem dX7_onward_3 : decode cX7_onward 3 = .ok (.irem, 1) := by decide +kernel
theorem dX7_onward_4 : decode cX7_onward 4 = .ok (.istore_n 3, 1) := by decide +kernel
theorem dX7_onward_5 : decode cX7_onward 5 = .ok (.iload_n 1, 1) := by decide +kernel
theorem dX7_onward_6 : decode cX7_onward 6 = .ok (.istore 4, 2) := by decide +kernel
theorem dX7_onward_8 : decode cX7_onward 8 = .ok (.iload_n 1, 1) := by decide +kernel
theorem dX7_onward_9 : decode cX7_onward 9 = .ok (.bipush 7, 2) := by decide +kernel
theorem dX7_onward_11 : decode cX7_onward 11 = .ok (.if_icmp .lt 18, 3) := by decide +kernel
theorem dX7_onward_14 : decode cX7_onward 14 = .ok (.aload_n 0, 1) := by decide +kernel
theorem dX7_onward_15 : decode cX7_onward 15 = .ok (.iload 4, 2) := by decide +kernel
theorem dX7_onward_17 : decode cX7_onward 17 = .ok (.iload_n 1, 1) := by decide +kernel
theorem dX7_onward_18 : decode cX7_onward 18 = .ok (.bipush 7, 2) := by decide +kernel
theorem dX7_onward_20 : decode cX7_onward 20 = .ok (.isub, 1) := by decide +kernel
theorem dX7_onward_21 : decode cX7_onward 21 = .ok (.iload_n 2, 1) := by decide +kernel
theorem dX7_onward_22 : decode cX7_onward 22 = .ok (.iconst 1, 1) := by decide +kernel
theorem dX7_onward_23 : decode cX7_onward 23 = .ok (.iadd, 1) := by decide +kernel
theorem dX7_onward_24 : decode cX7_onward 24 = .ok (.invokevirtual 24, 3) := by decide +kernel
theorem dX7_onward_27 : decode cX7_onward 27 = .ok (.istore 4, 2) := by decide +kernel
theorem dX7_onward_29 : decode cX7_onward 29 = .ok (.iload_n 3, 1) := by decide +kernel
theorem dX7_onward_30 : decode cX7_onward 30 = .ok (.ifCond .le 17, 3) := by decide +kernel
theorem dX7_onward_33 : decode cX7_onward 33 = .ok (.aload_n 0, 1) := by decide +kernel
theorem dX7_onward_34 : decode cX7_onward 34 = .ok (.iload 4, 2) := by decide +kernel
theorem dX7_onward_36 : decode cX7_onward 36 = .ok (.iload_n 1, 1) := by decide +kernel
theorem dX7_onward_37 : decode cX7_onward 37 = .ok (.iconst 1, 1) := by decide +kernel
theorem dX7_onward_38 : decode cX7_onward 38 = .ok (.isub, 1) := by decide +kernel
theorem dX7_onward_39 : decode cX7_onward 39 = .ok (.iload_n 2, 1) := by decide +kernel
theorem dX7_onward_40 : decode cX7_onward 40 = .ok (.iconst 1, 1) := by decide +kernel
theorem dX7_onward_41 : decode cX7_onward 41 = .ok (.iadd, 1) := by decide +kernel
theorem dX7_onward_42 : decode cX7_onward 42 = .ok (.invokevirtual 24, 3) := by decide +kernel
theorem dX7_onward_45 : decode cX7_onward 45 = .ok (.istore 4, 2) := by decide +kernel
theorem dX7_onward_47 : decode cX7_onward 47 = .ok (.iload_n 3, 1) := by decide +kernel
theorem dX7_onward_48 : decode cX7_onward 48 = .ok (.bipush 6, 2) := by decide +kernel
theorem dX7_onward_50 : decode cX7_onward 50 = .ok (.if_icmp .ge 17, 3) := by decide +kernel
theorem dX7_onward_53 : decode cX7_onward 53 = .ok (.aload_n 0, 1) := by decide +kernel
theorem dX7_onward_54 : decode cX7_onward 54 = .ok (.iload 4, 2) := by decide +kernel
theorem dX7_onward_56 : decode cX7_onward 56 = .ok (.iload_n 1, 1) := by decide +kernel
theorem dX7_onward_57 : decode cX7_onward 57 = .ok (.iconst 1, 1) := by decide +kernel
theorem dX7_onward_58 : decode cX7_onward 58 = .ok (.iadd, 1) := by decide +kernel
theorem dX7_onward_59 : decode cX7_onward 59 = .ok (.iload_n 2, 1) := by decide +kernel
theorem dX7_onward_60 : decode cX7_onward 60 = .ok (.iconst 1, 1) := by decide +kernel
theorem dX7_onward_61 : decode cX7_onward 61 = .ok (.iadd, 1) := by decide +kernel
theorem dX7_onward_62 : decode cX7_onward 62 = .ok (.invokevirtual 24, 3) := by decide +kernel
theorem dX7_onward_65 : decode cX7_onward 65 = .ok (.istore 4, 2) := by decide +kernel
theorem dX7_onward_67 : decode cX7_onward 67 = .ok (.iload_n 1, 1) := by decide +kernel
theorem dX7_onward_68 : decode cX7_onward 68 = .ok (.bipush 7, 2) := by decide +kernel
theorem dX7_onward_70 : decode cX7_onward 70 = .ok (.iadd, 1) := by decide +kernel
theorem dX7_onward_71 : decode cX7_onward 71 = .ok (.bipush 84, 2) := by decide +kernel
theorem dX7_onward_73 : decode cX7_onward 73 = .ok (.if_icmp .ge 18, 3) := by decide +kernel
theorem dX7_onward_76 : decode cX7_onward 76 = .ok (.aload_n 0, 1) := by decide +kernel
theorem dX7_onward_77 : decode cX7_onward 77 = .ok (.iload 4, 2) := by decide +kernel
theorem dX7_onward_79 : decode cX7_onward 79 = .ok (.iload_n 1, 1) := by decide +kernel
theorem dX7_onward_80 : decode cX7_onward 80 = .ok (.bipush 7, 2) := by decide +kernel
theorem dX7_onward_82 : decode cX7_onward 82 = .ok (.iadd, 1) := by decide +kernel
theorem dX7_onward_83 : decode cX7_onward 83 = .ok (.iload_n 2, 1) := by decide +kernel
theorem dX7_onward_84 : decode cX7_onward 84 = .ok (.iconst 1, 1) := by decide +kernel
theorem dX7_onward_85 : decode cX7_onward 85 = .ok (.iadd, 1) := by decide +kernel
theorem dX7_onward_86 : decode cX7_onward 86 = .ok (.invokevirtual 24, 3) := by decide +kernel
theorem dX7_onward_89 : decode cX7_onward 89 = .ok (.istore 4, 2) := by decide +kernel
theorem dX7_onward_91 : decode cX7_onward 91 = .ok (.iload 4, 2) := by decide +kernel
theorem dX7_onward_93 : decode cX7_onward 93 = .ok (.ireturn, 1) := by decide +kernel
theorem dX7_better_0 : decode cX7_better 0 = .ok (.aload_n 0, 1) := by decide +kernel
theorem dX7_better_1 : decode cX7_better 1 = .ok (.getfield 9, 3) := by decide +kernel
theorem dX7_better_4 : decode cX7_better 4 = .ok (.iload_n 3, 1) := by decide +kernel
theorem dX7_better_5 : decode cX7_better 5 = .ok (.bipush 84, 2) := by decide +kernel
theorem dX7_better_7 : decode cX7_better 7 = .ok (.imul, 1) := by decide +kernel
theorem dX7_better_8 : decode cX7_better 8 = .ok (.iload_n 1, 1) := by decide +kernel
theorem dX7_better_9 : decode cX7_better 9 = .ok (.iadd, 1) := by decide +kernel
theorem dX7_better_10 : decode cX7_better 10 = .ok (.iaload, 1) := by decide +kernel
theorem dX7_better_11 : decode cX7_better 11 = .ok (.istore 4, 2) := by decide +kernel
theorem dX7_better_13 : decode cX7_better 13 = .ok (.aload_n 0, 1) := by decide +kernel
theorem dX7_better_14 : decode cX7_better 14 = .ok (.getfield 9, 3) := by decide +kernel
theorem dX7_better_17 : decode cX7_better 17 = .ok (.iload_n 3, 1) := by decide +kernel
theorem dX7_better_18 : decode cX7_better 18 = .ok (.bipush 84, 2) := by decide +kernel
theorem dX7_better_20 : decode cX7_better 20 = .ok (.imul, 1) := by decide +kernel
theorem dX7_better_21 : decode cX7_better 21 = .ok (.iload_n 2, 1) := by decide +kernel
theorem dX7_better_22 : decode cX7_better 22 = .ok (.iadd, 1) := by decide +kernel
theorem dX7_better_23 : decode cX7_better 23 = .ok (.iaload, 1) := by decide +kernel
theorem dX7_better_24 : decode cX7_better 24 = .ok (.istore 5, 2) := by decide +kernel
theorem dX7_better_26 : decode cX7_better 26 = .ok (.iload 4, 2) := by decide +kernel
theorem dX7_better_28 : decode cX7_better 28 = .ok (.iload 5, 2) := by decide +kernel
theorem dX7_better_30 : decode cX7_better 30 = .ok (.if_icmp .ne 9, 3) := by decide +kernel
theorem dX7_better_33 : decode cX7_better 33 = .ok (.iload_n 1, 1) := by decide +kernel
theorem dX7_better_34 : decode cX7_better 34 = .ok (.iload_n 2, 1) := by decide +kernel
theorem dX7_better_35 : decode cX7_better 35 = .ok (.invokestatic 28, 3) := by decide +kernel
theorem dX7_better_38 : decode cX7_better 38 = .ok (.ireturn, 1) := by decide +kernel
theorem dX7_better_39 : decode cX7_better 39 = .ok (.iload 4, 2) := by decide +kernel
theorem dX7_better_41 : decode cX7_better 41 = .ok (.iload 5, 2) := by decide +kernel
theorem dX7_better_43 : decode cX7_better 43 = .ok (.if_icmp .le 7, 3) := by decide +kernel
theorem dX7_better_46 : decode cX7_better 46 = .ok (.iload_n 1, 1) := by decide +kernel
theorem dX7_better_47 : decode cX7_better 47 = .ok (.goto 4, 3) := by decide +kernel
theorem dX7_better_50 : decode cX7_better 50 = .ok (.iload_n 2, 1) := by decide +kernel
theorem dX7_better_51 : decode cX7_better 51 = .ok (.ireturn, 1) := by decide +kernel
theorem dX8_init_0 : decode cX8_init 0 = .ok (.aload_n 0, 1) := by decide +kernel
theorem dX8_init_1 : decode cX8_init 1 = .ok (.invokespecial 3, 3) := by decide +kernel
theorem dX8_init_4 : decode cX8_init 4 = .ok (.aload_n 0, 1) := by decide +kernel
theorem dX8_init_5 : decode cX8_init 5 = .ok (.bipush 6, 2) := by decide +kernel
theorem dX8_init_7 : decode cX8_init 7 = .ok (.newarray .int, 2) := by decide +kernel
theorem dX8_init_9 : decode cX8_init 9 = .ok (.putfield 11, 3) := by decide +kernel
theorem dX8_init_12 : decode cX8_init 12 = .ok (.aload_n 0, 1) := by decide +kernel
theorem dX8_init_13 : decode cX8_init 13 = .ok (.bipush 6, 2) := by decide +kernel
theorem dX8_init_15 : decode cX8_init 15 = .ok (.newarray .int, 2) := by decide +kernel
theorem dX8_init_17 : decode cX8_init 17 = .ok (.putfield 15, 3) := by decide +kernel
theorem dX8_init_20 : decode cX8_init 20 = .ok (.return_, 1) := by decide +kernel
theorem dX8_add_0 : decode cX8_add 0 = .ok (.aload_n 0, 1) := by decide +kernel
theorem dX8_add_1 : decode cX8_add 1 = .ok (.getfield 18, 3) := by decide +kernel
theorem dX8_add_4 : decode cX8_add 4 = .ok (.bipush 6, 2) := by decide +kernel
theorem dX8_add_6 : decode cX8_add 6 = .ok (.if_icmp .lt 5, 3) := by decide +kernel
theorem dX8_add_9 : decode cX8_add 9 = .ok (.iconst 0, 1) := by decide +kernel
theorem dX8_add_10 : decode cX8_add 10 = .ok (.ireturn, 1) := by decide +kernel
theorem dX8_add_11 : decode cX8_add 11 = .ok (.aload_n 0, 1) := by decide +kernel
theorem dX8_add_12 : decode cX8_add 12 = .ok (.getfield 11, 3) := by decide +kernel
theorem dX8_add_15 : decode cX8_add 15 = .ok (.aload_n 0, 1) := by decide +kernel
theorem dX8_add_16 : decode cX8_add 16 = .ok (.getfield 18, 3) := by decide +kernel
theorem dX8_add_19 : decode cX8_add 19 = .ok (.iload_n 1, 1) := by decide +kernel
theorem dX8_add_20 : decode cX8_add 20 = .ok (.iastore, 1) := by decide +kernel
theorem dX8_add_21 : decode cX8_add 21 = .ok (.aload_n 0, 1) := by decide +kernel
theorem dX8_add_22 : decode cX8_add 22 = .ok (.getfield 15, 3) := by decide +kernel
theorem dX8_add_25 : decode cX8_add 25 = .ok (.aload_n 0, 1) := by decide +kernel
theorem dX8_add_26 : decode cX8_add 26 = .ok (.getfield 18, 3) := by decide +kernel
theorem dX8_add_29 : decode cX8_add 29 = .ok (.iload_n 2, 1) := by decide +kernel
theorem dX8_add_30 : decode cX8_add 30 = .ok (.iastore, 1) := by decide +kernel
theorem dX8_add_31 : decode cX8_add 31 = .ok (.aload_n 0, 1) := by decide +kernel
theorem dX8_add_32 : decode cX8_add 32 = .ok (.dup, 1) := by decide +kernel
theorem dX8_add_33 : decode cX8_add 33 = .ok (.getfield 18, 3) := by decide +kernel
theorem dX8_add_36 : decode cX8_add 36 = .ok (.iconst 1, 1) := by decide +kernel
theorem dX8_add_37 : decode cX8_add 37 = .ok (.iadd, 1) := by decide +kernel
theorem dX8_add_38 : decode cX8_add 38 = .ok (.putfield 18, 3) := by decide +kernel
theorem dX8_add_41 : decode cX8_add 41 = .ok (.iconst 1, 1) := by decide +kernel
theorem dX8_add_42 : decode cX8_add 42 = .ok (.ireturn, 1) := by decide +kernel
theorem dX8_agrees_0 : decode cX8_agrees 0 = .ok (.iconst 0, 1) := by decide +kernel
theorem dX8_agrees_1 : decode cX8_agrees 1 = .ok (.istore 4, 2) := by decide +kernel
theorem dX8_agrees_3 : decode cX8_agrees 3 = .ok (.iload 4, 2) := by decide +kernel
theorem dX8_agrees_5 : decode cX8_agrees 5 = .ok (.aload_n 0, 1) := by decide +kernel
theorem dX8_agrees_6 : decode cX8_agrees 6 = .ok (.getfield 18, 3) := by decide +kernel
theorem dX8_agrees_9 : decode cX8_agrees 9 = .ok (.if_icmp .ge 47, 3) := by decide +kernel
theorem dX8_agrees_12 : decode cX8_agrees 12 = .ok (.aload_n 1, 1) := by decide +kernel
theorem dX8_agrees_13 : decode cX8_agrees 13 = .ok (.aload_n 0, 1) := by decide +kernel
theorem dX8_agrees_14 : decode cX8_agrees 14 = .ok (.getfield 11, 3) := by decide +kernel
theorem dX8_agrees_17 : decode cX8_agrees 17 = .ok (.iload 4, 2) := by decide +kernel
theorem dX8_agrees_19 : decode cX8_agrees 19 = .ok (.iaload, 1) := by decide +kernel
theorem dX8_agrees_20 : decode cX8_agrees 20 = .ok (.bipush 8, 2) := by decide +kernel
theorem dX8_agrees_22 : decode cX8_agrees 22 = .ok (.idiv, 1) := by decide +kernel
theorem dX8_agrees_23 : decode cX8_agrees 23 = .ok (.aload_n 0, 1) := by decide +kernel
theorem dX8_agrees_24 : decode cX8_agrees 24 = .ok (.getfield 11, 3) := by decide +kernel
theorem dX8_agrees_27 : decode cX8_agrees 27 = .ok (.iload 4, 2) := by decide +kernel
theorem dX8_agrees_29 : decode cX8_agrees 29 = .ok (.iaload, 1) := by decide +kernel
theorem dX8_agrees_30 : decode cX8_agrees 30 = .ok (.bipush 8, 2) := by decide +kernel
theorem dX8_agrees_32 : decode cX8_agrees 32 = .ok (.irem, 1) := by decide +kernel
theorem dX8_agrees_33 : decode cX8_agrees 33 = .ok (.iload_n 2, 1) := by decide +kernel
theorem dX8_agrees_34 : decode cX8_agrees 34 = .ok (.iload_n 3, 1) := by decide +kernel
theorem dX8_agrees_35 : decode cX8_agrees 35 = .ok (.invokevirtual 22, 3) := by decide +kernel
theorem dX8_agrees_38 : decode cX8_agrees 38 = .ok (.aload_n 0, 1) := by decide +kernel
theorem dX8_agrees_39 : decode cX8_agrees 39 = .ok (.getfield 15, 3) := by decide +kernel
theorem dX8_agrees_42 : decode cX8_agrees 42 = .ok (.iload 4, 2) := by decide +kernel
theorem dX8_agrees_44 : decode cX8_agrees 44 = .ok (.iaload, 1) := by decide +kernel
theorem dX8_agrees_45 : decode cX8_agrees 45 = .ok (.if_icmp .eq 5, 3) := by decide +kernel
theorem dX8_agrees_48 : decode cX8_agrees 48 = .ok (.iconst 0, 1) := by decide +kernel
theorem dX8_agrees_49 : decode cX8_agrees 49 = .ok (.ireturn, 1) := by decide +kernel
theorem dX8_agrees_50 : decode cX8_agrees 50 = .ok (.iinc 4 1, 3) := by decide +kernel
theorem dX8_agrees_53 : decode cX8_agrees 53 = .ok (.goto (-50), 3) := by decide +kernel
theorem dX8_agrees_56 : decode cX8_agrees 56 = .ok (.iconst 1, 1) := by decide +kernel
theorem dX8_agrees_57 : decode cX8_agrees 57 = .ok (.ireturn, 1) := by decide +kernel
theorem dX8_suspected_0 : decode cX8_suspected 0 = .ok (.aload_n 0, 1) := by decide +kernel
theorem dX8_suspected_1 : decode cX8_suspected 1 = .ok (.aload_n 1, 1) := by decide +kernel
theorem dX8_suspected_2 : decode cX8_suspected 2 = .ok (.iconst (-1), 1) := by decide +kernel
theorem dX8_suspected_3 : decode cX8_suspected 3 = .ok (.iconst 0, 1) := by decide +kernel
theorem dX8_suspected_4 : decode cX8_suspected 4 = .ok (.invokevirtual 28, 3) := by decide +kernel
theorem dX8_suspected_7 : decode cX8_suspected 7 = .ok (.ifCond .eq 8, 3) := by decide +kernel
theorem dX8_suspected_10 : decode cX8_suspected 10 = .ok (.ldc 32, 2) := by decide +kernel
theorem dX8_suspected_12 : decode cX8_suspected 12 = .ok (.goto 4, 3) := by decide +kernel
theorem dX8_suspected_15 : decode cX8_suspected 15 = .ok (.iconst 0, 1) := by decide +kernel
theorem dX8_suspected_16 : decode cX8_suspected 16 = .ok (.istore_n 2, 1) := by decide +kernel
theorem dX8_suspected_17 : decode cX8_suspected 17 = .ok (.iconst 0, 1) := by decide +kernel
theorem dX8_suspected_18 : decode cX8_suspected 18 = .ok (.istore_n 3, 1) := by decide +kernel
theorem dX8_suspected_19 : decode cX8_suspected 19 = .ok (.iload_n 3, 1) := by decide +kernel
theorem dX8_suspected_20 : decode cX8_suspected 20 = .ok (.bipush 20, 2) := by decide +kernel
theorem dX8_suspected_22 : decode cX8_suspected 22 = .ok (.if_icmp .ge 42, 3) := by decide +kernel
theorem dX8_suspected_25 : decode cX8_suspected 25 = .ok (.aload_n 1, 1) := by decide +kernel
theorem dX8_suspected_26 : decode cX8_suspected 26 = .ok (.iload_n 3, 1) := by decide +kernel
theorem dX8_suspected_27 : decode cX8_suspected 27 = .ok (.invokevirtual 33, 3) := by decide +kernel
theorem dX8_suspected_30 : decode cX8_suspected 30 = .ok (.ifCond .eq 28, 3) := by decide +kernel
theorem dX8_suspected_33 : decode cX8_suspected 33 = .ok (.aload_n 1, 1) := by decide +kernel
theorem dX8_suspected_34 : decode cX8_suspected 34 = .ok (.iload_n 3, 1) := by decide +kernel
theorem dX8_suspected_35 : decode cX8_suspected 35 = .ok (.invokevirtual 37, 3) := by decide +kernel
theorem dX8_suspected_38 : decode cX8_suspected 38 = .ok (.ifCond .ne 20, 3) := by decide +kernel
theorem dX8_suspected_41 : decode cX8_suspected 41 = .ok (.aload_n 0, 1) := by decide +kernel
theorem dX8_suspected_42 : decode cX8_suspected 42 = .ok (.aload_n 1, 1) := by decide +kernel
theorem dX8_suspected_43 : decode cX8_suspected 43 = .ok (.iload_n 3, 1) := by decide +kernel
theorem dX8_suspected_44 : decode cX8_suspected 44 = .ok (.bipush 7, 2) := by decide +kernel
theorem dX8_suspected_46 : decode cX8_suspected 46 = .ok (.invokevirtual 28, 3) := by decide +kernel
theorem dX8_suspected_49 : decode cX8_suspected 49 = .ok (.ifCond .eq 9, 3) := by decide +kernel
theorem dX8_suspected_52 : decode cX8_suspected 52 = .ok (.iload_n 2, 1) := by decide +kernel
theorem dX8_suspected_53 : decode cX8_suspected 53 = .ok (.iconst 1, 1) := by decide +kernel
theorem dX8_suspected_54 : decode cX8_suspected 54 = .ok (.iload_n 3, 1) := by decide +kernel
theorem dX8_suspected_55 : decode cX8_suspected 55 = .ok (.ishl, 1) := by decide +kernel
theorem dX8_suspected_56 : decode cX8_suspected 56 = .ok (.ior, 1) := by decide +kernel
theorem dX8_suspected_57 : decode cX8_suspected 57 = .ok (.istore_n 2, 1) := by decide +kernel
theorem dX8_suspected_58 : decode cX8_suspected 58 = .ok (.iinc 3 1, 3) := by decide +kernel
theorem dX8_suspected_61 : decode cX8_suspected 61 = .ok (.goto (-42), 3) := by decide +kernel
theorem dX8_suspected_64 : decode cX8_suspected 64 = .ok (.iload_n 2, 1) := by decide +kernel
theorem dX8_suspected_65 : decode cX8_suspected 65 = .ok (.ireturn, 1) := by decide +kernel
theorem dX8_glassesOf_0 : decode cX8_glassesOf 0 = .ok (.aload_n 1, 1) := by decide +kernel
theorem dX8_glassesOf_1 : decode cX8_glassesOf 1 = .ok (.getfield 40, 3) := by decide +kernel
theorem dX8_glassesOf_4 : decode cX8_glassesOf 4 = .ok (.getfield 44, 3) := by decide +kernel
theorem dX8_glassesOf_7 : decode cX8_glassesOf 7 = .ok (.aload_n 1, 1) := by decide +kernel
theorem dX8_glassesOf_8 : decode cX8_glassesOf 8 = .ok (.getfield 49, 3) := by decide +kernel
theorem dX8_glassesOf_11 : decode cX8_glassesOf 11 = .ok (.getfield 53, 3) := by decide +kernel
theorem dX8_glassesOf_14 : decode cX8_glassesOf 14 = .ok (.getfield 59, 3) := by decide +kernel
theorem dX8_glassesOf_17 : decode cX8_glassesOf 17 = .ok (.iload_n 2, 1) := by decide +kernel
theorem dX8_glassesOf_18 : decode cX8_glassesOf 18 = .ok (.iaload, 1) := by decide +kernel
theorem dX8_glassesOf_19 : decode cX8_glassesOf 19 = .ok (.iaload, 1) := by decide +kernel
theorem dX8_glassesOf_20 : decode cX8_glassesOf 20 = .ok (.istore_n 3, 1) := by decide +kernel
theorem dX8_glassesOf_21 : decode cX8_glassesOf 21 = .ok (.iconst 0, 1) := by decide +kernel
theorem dX8_glassesOf_22 : decode cX8_glassesOf 22 = .ok (.istore 4, 2) := by decide +kernel
theorem dX8_glassesOf_24 : decode cX8_glassesOf 24 = .ok (.iconst 0, 1) := by decide +kernel
theorem dX8_glassesOf_25 : decode cX8_glassesOf 25 = .ok (.istore 5, 2) := by decide +kernel
theorem dX8_glassesOf_27 : decode cX8_glassesOf 27 = .ok (.iload 5, 2) := by decide +kernel
theorem dX8_glassesOf_29 : decode cX8_glassesOf 29 = .ok (.bipush 8, 2) := by decide +kernel
theorem dX8_glassesOf_31 : decode cX8_glassesOf 31 = .ok (.if_icmp .ge 31, 3) := by decide +kernel
theorem dX8_glassesOf_34 : decode cX8_glassesOf 34 = .ok (.aload_n 0, 1) := by decide +kernel
theorem dX8_glassesOf_35 : decode cX8_glassesOf 35 = .ok (.aload_n 1, 1) := by decide +kernel
theorem dX8_glassesOf_36 : decode cX8_glassesOf 36 = .ok (.iload_n 2, 1) := by decide +kernel
theorem dX8_glassesOf_37 : decode cX8_glassesOf 37 = .ok (.iload 5, 2) := by decide +kernel
theorem dX8_glassesOf_39 : decode cX8_glassesOf 39 = .ok (.iload_n 3, 1) := by decide +kernel
theorem dX8_glassesOf_40 : decode cX8_glassesOf 40 = .ok (.iand, 1) := by decide +kernel
theorem dX8_glassesOf_41 : decode cX8_glassesOf 41 = .ok (.invokevirtual 28, 3) := by decide +kernel
theorem dX8_glassesOf_44 : decode cX8_glassesOf 44 = .ok (.ifCond .eq 12, 3) := by decide +kernel
theorem dX8_glassesOf_47 : decode cX8_glassesOf 47 = .ok (.iload 4, 2) := by decide +kernel
theorem dX8_glassesOf_49 : decode cX8_glassesOf 49 = .ok (.iconst 1, 1) := by decide +kernel
theorem dX8_glassesOf_50 : decode cX8_glassesOf 50 = .ok (.iload 5, 2) := by decide +kernel
theorem dX8_glassesOf_52 : decode cX8_glassesOf 52 = .ok (.ishl, 1) := by decide +kernel
theorem dX8_glassesOf_53 : decode cX8_glassesOf 53 = .ok (.ior, 1) := by decide +kernel
theorem dX8_glassesOf_54 : decode cX8_glassesOf 54 = .ok (.istore 4, 2) := by decide +kernel
theorem dX8_glassesOf_56 : decode cX8_glassesOf 56 = .ok (.iinc 5 1, 3) := by decide +kernel
theorem dX8_glassesOf_59 : decode cX8_glassesOf 59 = .ok (.goto (-32), 3) := by decide +kernel
theorem dX8_glassesOf_62 : decode cX8_glassesOf 62 = .ok (.iload 4, 2) := by decide +kernel
theorem dX8_glassesOf_64 : decode cX8_glassesOf 64 = .ok (.ireturn, 1) := by decide +kernel
theorem dX8_bestPlace_0 : decode cX8_bestPlace 0 = .ok (.iload_n 2, 1) := by decide +kernel
theorem dX8_bestPlace_1 : decode cX8_bestPlace 1 = .ok (.ifCond .ne 6, 3) := by decide +kernel
theorem dX8_bestPlace_4 : decode cX8_bestPlace 4 = .ok (.bipush (-9), 2) := by decide +kernel
theorem dX8_bestPlace_6 : decode cX8_bestPlace 6 = .ok (.ireturn, 1) := by decide +kernel
theorem dX8_bestPlace_7 : decode cX8_bestPlace 7 = .ok (.bipush (-9), 2) := by decide +kernel
theorem dX8_bestPlace_9 : decode cX8_bestPlace 9 = .ok (.istore_n 3, 1) := by decide +kernel
theorem dX8_bestPlace_10 : decode cX8_bestPlace 10 = .ok (.bipush 22, 2) := by decide +kernel
theorem dX8_bestPlace_12 : decode cX8_bestPlace 12 = .ok (.istore 4, 2) := by decide +kernel
theorem dX8_bestPlace_14 : decode cX8_bestPlace 14 = .ok (.iconst 0, 1) := by decide +kernel
theorem dX8_bestPlace_15 : decode cX8_bestPlace 15 = .ok (.istore 5, 2) := by decide +kernel
theorem dX8_bestPlace_17 : decode cX8_bestPlace 17 = .ok (.iload 5, 2) := by decide +kernel
theorem dX8_bestPlace_19 : decode cX8_bestPlace 19 = .ok (.sipush 672, 3) := by decide +kernel
theorem dX8_bestPlace_22 : decode cX8_bestPlace 22 = .ok (.if_icmp .ge 41, 3) := by decide +kernel
theorem dX8_bestPlace_25 : decode cX8_bestPlace 25 = .ok (.aload_n 0, 1) := by decide +kernel
theorem dX8_bestPlace_26 : decode cX8_bestPlace 26 = .ok (.aload_n 1, 1) := by decide +kernel
theorem dX8_bestPlace_27 : decode cX8_bestPlace 27 = .ok (.iload_n 2, 1) := by decide +kernel
theorem dX8_bestPlace_28 : decode cX8_bestPlace 28 = .ok (.iload 5, 2) := by decide +kernel
theorem dX8_bestPlace_30 : decode cX8_bestPlace 30 = .ok (.bipush 8, 2) := by decide +kernel
theorem dX8_bestPlace_32 : decode cX8_bestPlace 32 = .ok (.idiv, 1) := by decide +kernel
theorem dX8_bestPlace_33 : decode cX8_bestPlace 33 = .ok (.iload 5, 2) := by decide +kernel
theorem dX8_bestPlace_35 : decode cX8_bestPlace 35 = .ok (.bipush 8, 2) := by decide +kernel
theorem dX8_bestPlace_37 : decode cX8_bestPlace 37 = .ok (.irem, 1) := by decide +kernel
theorem dX8_bestPlace_38 : decode cX8_bestPlace 38 = .ok (.invokevirtual 64, 3) := by decide +kernel
theorem dX8_bestPlace_41 : decode cX8_bestPlace 41 = .ok (.istore 6, 2) := by decide +kernel
theorem dX8_bestPlace_43 : decode cX8_bestPlace 43 = .ok (.iload 6, 2) := by decide +kernel
theorem dX8_bestPlace_45 : decode cX8_bestPlace 45 = .ok (.iload 4, 2) := by decide +kernel
theorem dX8_bestPlace_47 : decode cX8_bestPlace 47 = .ok (.if_icmp .ge 10, 3) := by decide +kernel
theorem dX8_bestPlace_50 : decode cX8_bestPlace 50 = .ok (.iload 6, 2) := by decide +kernel
theorem dX8_bestPlace_52 : decode cX8_bestPlace 52 = .ok (.istore 4, 2) := by decide +kernel
theorem dX8_bestPlace_54 : decode cX8_bestPlace 54 = .ok (.iload 5, 2) := by decide +kernel
theorem dX8_bestPlace_56 : decode cX8_bestPlace 56 = .ok (.istore_n 3, 1) := by decide +kernel
theorem dX8_bestPlace_57 : decode cX8_bestPlace 57 = .ok (.iinc 5 1, 3) := by decide +kernel
theorem dX8_bestPlace_60 : decode cX8_bestPlace 60 = .ok (.goto (-43), 3) := by decide +kernel
theorem dX8_bestPlace_63 : decode cX8_bestPlace 63 = .ok (.iload_n 3, 1) := by decide +kernel
theorem dX8_bestPlace_64 : decode cX8_bestPlace 64 = .ok (.ireturn, 1) := by decide +kernel
theorem dX8_mostAlike_0 : decode cX8_mostAlike 0 = .ok (.iload_n 2, 1) := by decide +kernel
theorem dX8_mostAlike_1 : decode cX8_mostAlike 1 = .ok (.invokestatic 68, 3) := by decide +kernel
theorem dX8_mostAlike_4 : decode cX8_mostAlike 4 = .ok (.istore 5, 2) := by decide +kernel
theorem dX8_mostAlike_6 : decode cX8_mostAlike 6 = .ok (.aload_n 1, 1) := by decide +kernel
theorem dX8_mostAlike_7 : decode cX8_mostAlike 7 = .ok (.iload_n 3, 1) := by decide +kernel
theorem dX8_mostAlike_8 : decode cX8_mostAlike 8 = .ok (.iload 4, 2) := by decide +kernel
theorem dX8_mostAlike_10 : decode cX8_mostAlike 10 = .ok (.invokevirtual 74, 3) := by decide +kernel
theorem dX8_mostAlike_13 : decode cX8_mostAlike 13 = .ok (.bipush 7, 2) := by decide +kernel
theorem dX8_mostAlike_15 : decode cX8_mostAlike 15 = .ok (.if_icmp .ne 6, 3) := by decide +kernel
theorem dX8_mostAlike_18 : decode cX8_mostAlike 18 = .ok (.iload 5, 2) := by decide +kernel
theorem dX8_mostAlike_20 : decode cX8_mostAlike 20 = .ok (.ireturn, 1) := by decide +kernel
theorem dX8_mostAlike_21 : decode cX8_mostAlike 21 = .ok (.aload_n 0, 1) := by decide +kernel
theorem dX8_mostAlike_22 : decode cX8_mostAlike 22 = .ok (.iload_n 2, 1) := by decide +kernel
theorem dX8_mostAlike_23 : decode cX8_mostAlike 23 = .ok (.aload_n 1, 1) := by decide +kernel
theorem dX8_mostAlike_24 : decode cX8_mostAlike 24 = .ok (.iload_n 3, 1) := by decide +kernel
theorem dX8_mostAlike_25 : decode cX8_mostAlike 25 = .ok (.iload 4, 2) := by decide +kernel
theorem dX8_mostAlike_27 : decode cX8_mostAlike 27 = .ok (.invokevirtual 78, 3) := by decide +kernel
theorem dX8_mostAlike_30 : decode cX8_mostAlike 30 = .ok (.invokevirtual 81, 3) := by decide +kernel
theorem dX8_mostAlike_33 : decode cX8_mostAlike 33 = .ok (.aload_n 0, 1) := by decide +kernel
theorem dX8_mostAlike_34 : decode cX8_mostAlike 34 = .ok (.iload_n 2, 1) := by decide +kernel
theorem dX8_mostAlike_35 : decode cX8_mostAlike 35 = .ok (.aload_n 1, 1) := by decide +kernel
theorem dX8_mostAlike_36 : decode cX8_mostAlike 36 = .ok (.iload_n 3, 1) := by decide +kernel
theorem dX8_mostAlike_37 : decode cX8_mostAlike 37 = .ok (.iload 4, 2) := by decide +kernel
theorem dX8_mostAlike_39 : decode cX8_mostAlike 39 = .ok (.invokevirtual 84, 3) := by decide +kernel
theorem dX8_mostAlike_42 : decode cX8_mostAlike 42 = .ok (.invokevirtual 81, 3) := by decide +kernel
theorem dX8_mostAlike_45 : decode cX8_mostAlike 45 = .ok (.iadd, 1) := by decide +kernel
theorem dX8_mostAlike_46 : decode cX8_mostAlike 46 = .ok (.istore 6, 2) := by decide +kernel
theorem dX8_mostAlike_48 : decode cX8_mostAlike 48 = .ok (.iload 6, 2) := by decide +kernel
theorem dX8_mostAlike_50 : decode cX8_mostAlike 50 = .ok (.iload 5, 2) := by decide +kernel
theorem dX8_mostAlike_52 : decode cX8_mostAlike 52 = .ok (.iload 6, 2) := by decide +kernel
theorem dX8_mostAlike_54 : decode cX8_mostAlike 54 = .ok (.isub, 1) := by decide +kernel
theorem dX8_mostAlike_55 : decode cX8_mostAlike 55 = .ok (.invokestatic 87, 3) := by decide +kernel
theorem dX8_mostAlike_58 : decode cX8_mostAlike 58 = .ok (.ireturn, 1) := by decide +kernel
theorem dX8_bitOf_0 : decode cX8_bitOf 0 = .ok (.iload_n 2, 1) := by decide +kernel
theorem dX8_bitOf_1 : decode cX8_bitOf 1 = .ok (.iconst (-1), 1) := by decide +kernel
theorem dX8_bitOf_2 : decode cX8_bitOf 2 = .ok (.if_icmp .ne 7, 3) := by decide +kernel
theorem dX8_bitOf_5 : decode cX8_bitOf 5 = .ok (.iconst 0, 1) := by decide +kernel
theorem dX8_bitOf_6 : decode cX8_bitOf 6 = .ok (.goto 8, 3) := by decide +kernel
theorem dX8_bitOf_9 : decode cX8_bitOf 9 = .ok (.iload_n 1, 1) := by decide +kernel
theorem dX8_bitOf_10 : decode cX8_bitOf 10 = .ok (.iload_n 2, 1) := by decide +kernel
theorem dX8_bitOf_11 : decode cX8_bitOf 11 = .ok (.ishr, 1) := by decide +kernel
theorem dX8_bitOf_12 : decode cX8_bitOf 12 = .ok (.iconst 1, 1) := by decide +kernel
theorem dX8_bitOf_13 : decode cX8_bitOf 13 = .ok (.iand, 1) := by decide +kernel
theorem dX8_bitOf_14 : decode cX8_bitOf 14 = .ok (.ireturn, 1) := by decide +kernel
theorem dX9_init_0 : decode cX9_init 0 = .ok (.aload_n 0, 1) := by decide +kernel
theorem dX9_init_1 : decode cX9_init 1 = .ok (.invokespecial 3, 3) := by decide +kernel
theorem dX9_init_4 : decode cX9_init 4 = .ok (.aload_n 0, 1) := by decide +kernel
theorem dX9_init_5 : decode cX9_init 5 = .ok (.new 9, 3) := by decide +kernel
theorem dX9_init_8 : decode cX9_init 8 = .ok (.dup, 1) := by decide +kernel
theorem dX9_init_9 : decode cX9_init 9 = .ok (.invokespecial 11, 3) := by decide +kernel
theorem dX9_init_12 : decode cX9_init 12 = .ok (.putfield 12, 3) := by decide +kernel
theorem dX9_init_15 : decode cX9_init 15 = .ok (.aload_n 0, 1) := by decide +kernel
theorem dX9_init_16 : decode cX9_init 16 = .ok (.new 16, 3) := by decide +kernel
theorem dX9_init_19 : decode cX9_init 19 = .ok (.dup, 1) := by decide +kernel
theorem dX9_init_20 : decode cX9_init 20 = .ok (.invokespecial 18, 3) := by decide +kernel
theorem dX9_init_23 : decode cX9_init 23 = .ok (.putfield 19, 3) := by decide +kernel
theorem dX9_init_26 : decode cX9_init 26 = .ok (.aload_n 0, 1) := by decide +kernel
theorem dX9_init_27 : decode cX9_init 27 = .ok (.new 23, 3) := by decide +kernel
theorem dX9_init_30 : decode cX9_init 30 = .ok (.dup, 1) := by decide +kernel
theorem dX9_init_31 : decode cX9_init 31 = .ok (.invokespecial 25, 3) := by decide +kernel
theorem dX9_init_34 : decode cX9_init 34 = .ok (.putfield 26, 3) := by decide +kernel
theorem dX9_init_37 : decode cX9_init 37 = .ok (.aload_n 0, 1) := by decide +kernel
theorem dX9_init_38 : decode cX9_init 38 = .ok (.new 30, 3) := by decide +kernel
theorem dX9_init_41 : decode cX9_init 41 = .ok (.dup, 1) := by decide +kernel
theorem dX9_init_42 : decode cX9_init 42 = .ok (.invokespecial 32, 3) := by decide +kernel
theorem dX9_init_45 : decode cX9_init 45 = .ok (.putfield 33, 3) := by decide +kernel
theorem dX9_init_48 : decode cX9_init 48 = .ok (.aload_n 0, 1) := by decide +kernel
theorem dX9_init_49 : decode cX9_init 49 = .ok (.new 37, 3) := by decide +kernel
theorem dX9_init_52 : decode cX9_init 52 = .ok (.dup, 1) := by decide +kernel
theorem dX9_init_53 : decode cX9_init 53 = .ok (.invokespecial 39, 3) := by decide +kernel
theorem dX9_init_56 : decode cX9_init 56 = .ok (.putfield 40, 3) := by decide +kernel
theorem dX9_init_59 : decode cX9_init 59 = .ok (.aload_n 0, 1) := by decide +kernel
theorem dX9_init_60 : decode cX9_init 60 = .ok (.iconst 2, 1) := by decide +kernel
theorem dX9_init_61 : decode cX9_init 61 = .ok (.anewarray 44, 3) := by decide +kernel
theorem dX9_init_64 : decode cX9_init 64 = .ok (.putfield 46, 3) := by decide +kernel
theorem dX9_init_67 : decode cX9_init 67 = .ok (.aload_n 0, 1) := by decide +kernel
theorem dX9_init_68 : decode cX9_init 68 = .ok (.new 50, 3) := by decide +kernel
theorem dX9_init_71 : decode cX9_init 71 = .ok (.dup, 1) := by decide +kernel
theorem dX9_init_72 : decode cX9_init 72 = .ok (.invokespecial 52, 3) := by decide +kernel
theorem dX9_init_75 : decode cX9_init 75 = .ok (.putfield 53, 3) := by decide +kernel
theorem dX9_init_78 : decode cX9_init 78 = .ok (.iconst 0, 1) := by decide +kernel
theorem dX9_init_79 : decode cX9_init 79 = .ok (.istore_n 1, 1) := by decide +kernel
theorem dX9_init_80 : decode cX9_init 80 = .ok (.iload_n 1, 1) := by decide +kernel
theorem dX9_init_81 : decode cX9_init 81 = .ok (.iconst 2, 1) := by decide +kernel
theorem dX9_init_82 : decode cX9_init 82 = .ok (.if_icmp .ge 22, 3) := by decide +kernel
theorem dX9_init_85 : decode cX9_init 85 = .ok (.aload_n 0, 1) := by decide +kernel
theorem dX9_init_86 : decode cX9_init 86 = .ok (.getfield 46, 3) := by decide +kernel
theorem dX9_init_89 : decode cX9_init 89 = .ok (.iload_n 1, 1) := by decide +kernel
theorem dX9_init_90 : decode cX9_init 90 = .ok (.new 44, 3) := by decide +kernel
theorem dX9_init_93 : decode cX9_init 93 = .ok (.dup, 1) := by decide +kernel
theorem dX9_init_94 : decode cX9_init 94 = .ok (.invokespecial 57, 3) := by decide +kernel
theorem dX9_init_97 : decode cX9_init 97 = .ok (.aastore, 1) := by decide +kernel
theorem dX9_init_98 : decode cX9_init 98 = .ok (.iinc 1 1, 3) := by decide +kernel
theorem dX9_init_101 : decode cX9_init 101 = .ok (.goto (-21), 3) := by decide +kernel
theorem dX9_init_104 : decode cX9_init 104 = .ok (.aload_n 0, 1) := by decide +kernel
theorem dX9_init_105 : decode cX9_init 105 = .ok (.getfield 19, 3) := by decide +kernel
theorem dX9_init_108 : decode cX9_init 108 = .ok (.getfield 58, 3) := by decide +kernel
theorem dX9_init_111 : decode cX9_init 111 = .ok (.aload_n 0, 1) := by decide +kernel
theorem dX9_init_112 : decode cX9_init 112 = .ok (.getfield 19, 3) := by decide +kernel
theorem dX9_init_115 : decode cX9_init 115 = .ok (.getfield 62, 3) := by decide +kernel
theorem dX9_init_118 : decode cX9_init 118 = .ok (.invokevirtual 65, 3) := by decide +kernel
theorem dX9_init_121 : decode cX9_init 121 = .ok (.return_, 1) := by decide +kernel
theorem dX9_type_0 : decode cX9_type 0 = .ok (.iload_n 1, 1) := by decide +kernel
theorem dX9_type_1 : decode cX9_type 1 = .ok (.ifCond .lt 10, 3) := by decide +kernel
theorem dX9_type_4 : decode cX9_type 4 = .ok (.iload_n 1, 1) := by decide +kernel
theorem dX9_type_5 : decode cX9_type 5 = .ok (.sipush 255, 3) := by decide +kernel
theorem dX9_type_8 : decode cX9_type 8 = .ok (.if_icmp .le 5, 3) := by decide +kernel
theorem dX9_type_11 : decode cX9_type 11 = .ok (.iconst (-1), 1) := by decide +kernel
theorem dX9_type_12 : decode cX9_type 12 = .ok (.ireturn, 1) := by decide +kernel
theorem dX9_type_13 : decode cX9_type 13 = .ok (.aload_n 0, 1) := by decide +kernel
theorem dX9_type_14 : decode cX9_type 14 = .ok (.getfield 12, 3) := by decide +kernel
theorem dX9_type_17 : decode cX9_type 17 = .ok (.iload_n 1, 1) := by decide +kernel
theorem dX9_type_18 : decode cX9_type 18 = .ok (.invokevirtual 69, 3) := by decide +kernel
theorem dX9_type_21 : decode cX9_type 21 = .ok (.ifCond .eq 13, 3) := by decide +kernel
theorem dX9_type_24 : decode cX9_type 24 = .ok (.aload_n 0, 1) := by decide +kernel
theorem dX9_type_25 : decode cX9_type 25 = .ok (.getfield 12, 3) := by decide +kernel
theorem dX9_type_28 : decode cX9_type 28 = .ok (.getfield 73, 3) := by decide +kernel
theorem dX9_type_31 : decode cX9_type 31 = .ok (.goto 5, 3) := by decide +kernel
theorem dX9_type_34 : decode cX9_type 34 = .ok (.bipush (-3), 2) := by decide +kernel
theorem dX9_type_36 : decode cX9_type 36 = .ok (.ireturn, 1) := by decide +kernel
theorem dX9_clear_0 : decode cX9_clear 0 = .ok (.aload_n 0, 1) := by decide +kernel
theorem dX9_clear_1 : decode cX9_clear 1 = .ok (.getfield 12, 3) := by decide +kernel
theorem dX9_clear_4 : decode cX9_clear 4 = .ok (.getfield 73, 3) := by decide +kernel
theorem dX9_clear_7 : decode cX9_clear 7 = .ok (.istore_n 1, 1) := by decide +kernel
theorem dX9_clear_8 : decode cX9_clear 8 = .ok (.aload_n 0, 1) := by decide +kernel
theorem dX9_clear_9 : decode cX9_clear 9 = .ok (.getfield 12, 3) := by decide +kernel
theorem dX9_clear_12 : decode cX9_clear 12 = .ok (.iconst 0, 1) := by decide +kernel
theorem dX9_clear_13 : decode cX9_clear 13 = .ok (.putfield 73, 3) := by decide +kernel
theorem dX9_clear_16 : decode cX9_clear 16 = .ok (.iload_n 1, 1) := by decide +kernel
theorem dX9_clear_17 : decode cX9_clear 17 = .ok (.ireturn, 1) := by decide +kernel
theorem dX9_window_0 : decode cX9_window 0 = .ok (.aload_n 0, 1) := by decide +kernel
theorem dX9_window_1 : decode cX9_window 1 = .ok (.getfield 12, 3) := by decide +kernel
theorem dX9_window_4 : decode cX9_window 4 = .ok (.aload_n 0, 1) := by decide +kernel
theorem dX9_window_5 : decode cX9_window 5 = .ok (.getfield 53, 3) := by decide +kernel
theorem dX9_window_8 : decode cX9_window 8 = .ok (.invokevirtual 77, 3) := by decide +kernel
theorem dX9_window_11 : decode cX9_window 11 = .ok (.istore_n 1, 1) := by decide +kernel
theorem dX9_window_12 : decode cX9_window 12 = .ok (.iload_n 1, 1) := by decide +kernel
theorem dX9_window_13 : decode cX9_window 13 = .ok (.ifCond .ge 5, 3) := by decide +kernel
theorem dX9_window_16 : decode cX9_window 16 = .ok (.iload_n 1, 1) := by decide +kernel
theorem dX9_window_17 : decode cX9_window 17 = .ok (.ireturn, 1) := by decide +kernel
theorem dX9_window_18 : decode cX9_window 18 = .ok (.aload_n 0, 1) := by decide +kernel
theorem dX9_window_19 : decode cX9_window 19 = .ok (.getfield 19, 3) := by decide +kernel
theorem dX9_window_22 : decode cX9_window 22 = .ok (.getfield 62, 3) := by decide +kernel
theorem dX9_window_25 : decode cX9_window 25 = .ok (.astore_n 2, 1) := by decide +kernel
theorem dX9_window_26 : decode cX9_window 26 = .ok (.aload_n 0, 1) := by decide +kernel
theorem dX9_window_27 : decode cX9_window 27 = .ok (.getfield 19, 3) := by decide +kernel
theorem dX9_window_30 : decode cX9_window 30 = .ok (.aload_n 0, 1) := by decide +kernel
theorem dX9_window_31 : decode cX9_window 31 = .ok (.getfield 53, 3) := by decide +kernel
theorem dX9_window_34 : decode cX9_window 34 = .ok (.putfield 62, 3) := by decide +kernel
theorem dX9_window_37 : decode cX9_window 37 = .ok (.aload_n 0, 1) := by decide +kernel
theorem dX9_window_38 : decode cX9_window 38 = .ok (.aload_n 2, 1) := by decide +kernel
theorem dX9_window_39 : decode cX9_window 39 = .ok (.putfield 53, 3) := by decide +kernel
theorem dX9_window_42 : decode cX9_window 42 = .ok (.aload_n 0, 1) := by decide +kernel
theorem dX9_window_43 : decode cX9_window 43 = .ok (.getfield 19, 3) := by decide +kernel
theorem dX9_window_46 : decode cX9_window 46 = .ok (.getfield 58, 3) := by decide +kernel
theorem dX9_window_49 : decode cX9_window 49 = .ok (.aload_n 0, 1) := by decide +kernel
theorem dX9_window_50 : decode cX9_window 50 = .ok (.getfield 19, 3) := by decide +kernel
theorem dX9_window_53 : decode cX9_window 53 = .ok (.getfield 62, 3) := by decide +kernel
theorem dX9_window_56 : decode cX9_window 56 = .ok (.invokevirtual 65, 3) := by decide +kernel
theorem dX9_window_59 : decode cX9_window 59 = .ok (.aload_n 0, 1) := by decide +kernel
theorem dX9_window_60 : decode cX9_window 60 = .ok (.iconst 0, 1) := by decide +kernel
theorem dX9_window_61 : decode cX9_window 61 = .ok (.putfield 81, 3) := by decide +kernel
theorem dX9_window_64 : decode cX9_window 64 = .ok (.aload_n 0, 1) := by decide +kernel
theorem dX9_window_65 : decode cX9_window 65 = .ok (.getfield 40, 3) := by decide +kernel
theorem dX9_window_68 : decode cX9_window 68 = .ok (.iconst 0, 1) := by decide +kernel
theorem dX9_window_69 : decode cX9_window 69 = .ok (.putfield 84, 3) := by decide +kernel
theorem dX9_window_72 : decode cX9_window 72 = .ok (.aload_n 0, 1) := by decide +kernel
theorem dX9_window_73 : decode cX9_window 73 = .ok (.getfield 12, 3) := by decide +kernel
theorem dX9_window_76 : decode cX9_window 76 = .ok (.iconst 0, 1) := by decide +kernel
theorem dX9_window_77 : decode cX9_window 77 = .ok (.putfield 73, 3) := by decide +kernel
theorem dX9_window_80 : decode cX9_window 80 = .ok (.iload_n 1, 1) := by decide +kernel
theorem dX9_window_81 : decode cX9_window 81 = .ok (.ireturn, 1) := by decide +kernel
theorem dX9_pane_0 : decode cX9_pane 0 = .ok (.aload_n 0, 1) := by decide +kernel
theorem dX9_pane_1 : decode cX9_pane 1 = .ok (.getfield 19, 3) := by decide +kernel
theorem dX9_pane_4 : decode cX9_pane 4 = .ok (.iload_n 1, 1) := by decide +kernel
theorem dX9_pane_5 : decode cX9_pane 5 = .ok (.iload_n 2, 1) := by decide +kernel
theorem dX9_pane_6 : decode cX9_pane 6 = .ok (.invokevirtual 87, 3) := by decide +kernel
theorem dX9_pane_9 : decode cX9_pane 9 = .ok (.istore 4, 2) := by decide +kernel
theorem dX9_pane_11 : decode cX9_pane 11 = .ok (.iload 4, 2) := by decide +kernel
theorem dX9_pane_13 : decode cX9_pane 13 = .ok (.iconst (-1), 1) := by decide +kernel
theorem dX9_pane_14 : decode cX9_pane 14 = .ok (.if_icmp .ne 5, 3) := by decide +kernel
theorem dX9_pane_17 : decode cX9_pane 17 = .ok (.iconst (-1), 1) := by decide +kernel
theorem dX9_pane_18 : decode cX9_pane 18 = .ok (.ireturn, 1) := by decide +kernel
theorem dX9_pane_19 : decode cX9_pane 19 = .ok (.iload_n 3, 1) := by decide +kernel
theorem dX9_pane_20 : decode cX9_pane 20 = .ok (.tableswitch 91 0 3 #[32, 46, 64, 81], 32) := by decide +kernel
theorem dX9_pane_52 : decode cX9_pane 52 = .ok (.aload_n 0, 1) := by decide +kernel
theorem dX9_pane_53 : decode cX9_pane 53 = .ok (.getfield 19, 3) := by decide +kernel
theorem dX9_pane_56 : decode cX9_pane 56 = .ok (.getfield 62, 3) := by decide +kernel
theorem dX9_pane_59 : decode cX9_pane 59 = .ok (.getfield 91, 3) := by decide +kernel
theorem dX9_pane_62 : decode cX9_pane 62 = .ok (.iload 4, 2) := by decide +kernel
theorem dX9_pane_64 : decode cX9_pane 64 = .ok (.iaload, 1) := by decide +kernel
theorem dX9_pane_65 : decode cX9_pane 65 = .ok (.ireturn, 1) := by decide +kernel
theorem dX9_pane_66 : decode cX9_pane 66 = .ok (.aload_n 0, 1) := by decide +kernel
theorem dX9_pane_67 : decode cX9_pane 67 = .ok (.getfield 19, 3) := by decide +kernel
theorem dX9_pane_70 : decode cX9_pane 70 = .ok (.iload 4, 2) := by decide +kernel
theorem dX9_pane_72 : decode cX9_pane 72 = .ok (.invokevirtual 95, 3) := by decide +kernel
theorem dX9_pane_75 : decode cX9_pane 75 = .ok (.ifCond .eq 7, 3) := by decide +kernel
theorem dX9_pane_78 : decode cX9_pane 78 = .ok (.iconst 1, 1) := by decide +kernel
theorem dX9_pane_79 : decode cX9_pane 79 = .ok (.goto 4, 3) := by decide +kernel
theorem dX9_pane_82 : decode cX9_pane 82 = .ok (.iconst 0, 1) := by decide +kernel
theorem dX9_pane_83 : decode cX9_pane 83 = .ok (.ireturn, 1) := by decide +kernel
theorem dX9_pane_84 : decode cX9_pane 84 = .ok (.aload_n 0, 1) := by decide +kernel
theorem dX9_pane_85 : decode cX9_pane 85 = .ok (.getfield 19, 3) := by decide +kernel
theorem dX9_pane_88 : decode cX9_pane 88 = .ok (.getfield 58, 3) := by decide +kernel
theorem dX9_pane_91 : decode cX9_pane 91 = .ok (.getfield 98, 3) := by decide +kernel
theorem dX9_pane_94 : decode cX9_pane 94 = .ok (.getfield 102, 3) := by decide +kernel
theorem dX9_pane_97 : decode cX9_pane 97 = .ok (.iload 4, 2) := by decide +kernel
theorem dX9_pane_99 : decode cX9_pane 99 = .ok (.iaload, 1) := by decide +kernel
theorem dX9_pane_100 : decode cX9_pane 100 = .ok (.ireturn, 1) := by decide +kernel
theorem dX9_pane_101 : decode cX9_pane 101 = .ok (.aload_n 0, 1) := by decide +kernel
theorem dX9_pane_102 : decode cX9_pane 102 = .ok (.getfield 19, 3) := by decide +kernel
theorem dX9_pane_105 : decode cX9_pane 105 = .ok (.iload 4, 2) := by decide +kernel
theorem dX9_pane_107 : decode cX9_pane 107 = .ok (.invokevirtual 107, 3) := by decide +kernel
theorem dX9_pane_110 : decode cX9_pane 110 = .ok (.ireturn, 1) := by decide +kernel
theorem dX9_pane_111 : decode cX9_pane 111 = .ok (.iconst (-1), 1) := by decide +kernel
theorem dX9_pane_112 : decode cX9_pane 112 = .ok (.ireturn, 1) := by decide +kernel
theorem dX9_sheet_0 : decode cX9_sheet 0 = .ok (.aload_n 0, 1) := by decide +kernel
theorem dX9_sheet_1 : decode cX9_sheet 1 = .ok (.iload_n 1, 1) := by decide +kernel
theorem dX9_sheet_2 : decode cX9_sheet 2 = .ok (.invokevirtual 111, 3) := by decide +kernel
theorem dX9_sheet_5 : decode cX9_sheet 5 = .ok (.ifCond .ne 5, 3) := by decide +kernel
theorem dX9_sheet_8 : decode cX9_sheet 8 = .ok (.iconst (-1), 1) := by decide +kernel
theorem dX9_sheet_9 : decode cX9_sheet 9 = .ok (.ireturn, 1) := by decide +kernel
theorem dX9_sheet_10 : decode cX9_sheet 10 = .ok (.iload_n 2, 1) := by decide +kernel
theorem dX9_sheet_11 : decode cX9_sheet 11 = .ok (.lookupswitch 49 #[(0, 25), (1, 40)], 25) := by decide +kernel
theorem dX9_sheet_36 : decode cX9_sheet 36 = .ok (.aload_n 0, 1) := by decide +kernel
theorem dX9_sheet_37 : decode cX9_sheet 37 = .ok (.getfield 19, 3) := by decide +kernel
theorem dX9_sheet_40 : decode cX9_sheet 40 = .ok (.getfield 62, 3) := by decide +kernel
theorem dX9_sheet_43 : decode cX9_sheet 43 = .ok (.getfield 114, 3) := by decide +kernel
theorem dX9_sheet_46 : decode cX9_sheet 46 = .ok (.iconst 1, 1) := by decide +kernel
theorem dX9_sheet_47 : decode cX9_sheet 47 = .ok (.iload_n 1, 1) := by decide +kernel
theorem dX9_sheet_48 : decode cX9_sheet 48 = .ok (.ishl, 1) := by decide +kernel
theorem dX9_sheet_49 : decode cX9_sheet 49 = .ok (.iaload, 1) := by decide +kernel
theorem dX9_sheet_50 : decode cX9_sheet 50 = .ok (.ireturn, 1) := by decide +kernel
theorem dX9_sheet_51 : decode cX9_sheet 51 = .ok (.aload_n 0, 1) := by decide +kernel
theorem dX9_sheet_52 : decode cX9_sheet 52 = .ok (.getfield 19, 3) := by decide +kernel
theorem dX9_sheet_55 : decode cX9_sheet 55 = .ok (.iload_n 1, 1) := by decide +kernel
theorem dX9_sheet_56 : decode cX9_sheet 56 = .ok (.invokevirtual 117, 3) := by decide +kernel
theorem dX9_sheet_59 : decode cX9_sheet 59 = .ok (.ireturn, 1) := by decide +kernel
theorem dX9_sheet_60 : decode cX9_sheet 60 = .ok (.iconst (-1), 1) := by decide +kernel
theorem dX9_sheet_61 : decode cX9_sheet 61 = .ok (.ireturn, 1) := by decide +kernel
theorem dX9_lays_0 : decode cX9_lays 0 = .ok (.aload_n 0, 1) := by decide +kernel
theorem dX9_lays_1 : decode cX9_lays 1 = .ok (.getfield 19, 3) := by decide +kernel
theorem dX9_lays_4 : decode cX9_lays 4 = .ok (.iload_n 2, 1) := by decide +kernel
theorem dX9_lays_5 : decode cX9_lays 5 = .ok (.iload_n 3, 1) := by decide +kernel
theorem dX9_lays_6 : decode cX9_lays 6 = .ok (.invokevirtual 87, 3) := by decide +kernel
theorem dX9_lays_9 : decode cX9_lays 9 = .ok (.istore 4, 2) := by decide +kernel
theorem dX9_lays_11 : decode cX9_lays 11 = .ok (.aload_n 0, 1) := by decide +kernel
theorem dX9_lays_12 : decode cX9_lays 12 = .ok (.iload_n 1, 1) := by decide +kernel
theorem dX9_lays_13 : decode cX9_lays 13 = .ok (.invokevirtual 111, 3) := by decide +kernel
theorem dX9_lays_16 : decode cX9_lays 16 = .ok (.ifCond .eq 9, 3) := by decide +kernel
theorem dX9_lays_19 : decode cX9_lays 19 = .ok (.iload 4, 2) := by decide +kernel
theorem dX9_lays_21 : decode cX9_lays 21 = .ok (.iconst (-1), 1) := by decide +kernel
theorem dX9_lays_22 : decode cX9_lays 22 = .ok (.if_icmp .ne 5, 3) := by decide +kernel
theorem dX9_lays_25 : decode cX9_lays 25 = .ok (.iconst (-1), 1) := by decide +kernel
theorem dX9_lays_26 : decode cX9_lays 26 = .ok (.ireturn, 1) := by decide +kernel
theorem dX9_lays_27 : decode cX9_lays 27 = .ok (.aload_n 0, 1) := by decide +kernel
theorem dX9_lays_28 : decode cX9_lays 28 = .ok (.getfield 19, 3) := by decide +kernel
theorem dX9_lays_31 : decode cX9_lays 31 = .ok (.iload_n 1, 1) := by decide +kernel
theorem dX9_lays_32 : decode cX9_lays 32 = .ok (.invokevirtual 117, 3) := by decide +kernel
theorem dX9_lays_35 : decode cX9_lays 35 = .ok (.bipush (-9), 2) := by decide +kernel
theorem dX9_lays_37 : decode cX9_lays 37 = .ok (.if_icmp .ne 15, 3) := by decide +kernel
theorem dX9_lays_40 : decode cX9_lays 40 = .ok (.aload_n 0, 1) := by decide +kernel
theorem dX9_lays_41 : decode cX9_lays 41 = .ok (.getfield 19, 3) := by decide +kernel
theorem dX9_lays_44 : decode cX9_lays 44 = .ok (.iload 4, 2) := by decide +kernel
theorem dX9_lays_46 : decode cX9_lays 46 = .ok (.invokevirtual 120, 3) := by decide +kernel
theorem dX9_lays_49 : decode cX9_lays 49 = .ok (.ifCond .ne 6, 3) := by decide +kernel
theorem dX9_lays_52 : decode cX9_lays 52 = .ok (.bipush (-2), 2) := by decide +kernel
theorem dX9_lays_54 : decode cX9_lays 54 = .ok (.ireturn, 1) := by decide +kernel
theorem dX9_lays_55 : decode cX9_lays 55 = .ok (.aload_n 0, 1) := by decide +kernel
theorem dX9_lays_56 : decode cX9_lays 56 = .ok (.getfield 19, 3) := by decide +kernel
theorem dX9_lays_59 : decode cX9_lays 59 = .ok (.getfield 58, 3) := by decide +kernel
theorem dX9_lays_62 : decode cX9_lays 62 = .ok (.invokevirtual 123, 3) := by decide +kernel
theorem dX9_lays_65 : decode cX9_lays 65 = .ok (.getfield 102, 3) := by decide +kernel
theorem dX9_lays_68 : decode cX9_lays 68 = .ok (.iload 4, 2) := by decide +kernel
theorem dX9_lays_70 : decode cX9_lays 70 = .ok (.dup2, 1) := by decide +kernel
theorem dX9_lays_71 : decode cX9_lays 71 = .ok (.iaload, 1) := by decide +kernel
theorem dX9_lays_72 : decode cX9_lays 72 = .ok (.iconst 1, 1) := by decide +kernel
theorem dX9_lays_73 : decode cX9_lays 73 = .ok (.iload_n 1, 1) := by decide +kernel
theorem dX9_lays_74 : decode cX9_lays 74 = .ok (.ishl, 1) := by decide +kernel
theorem dX9_lays_75 : decode cX9_lays 75 = .ok (.ior, 1) := by decide +kernel
theorem dX9_lays_76 : decode cX9_lays 76 = .ok (.iastore, 1) := by decide +kernel
theorem dX9_lays_77 : decode cX9_lays 77 = .ok (.aload_n 0, 1) := by decide +kernel
theorem dX9_lays_78 : decode cX9_lays 78 = .ok (.getfield 19, 3) := by decide +kernel
theorem dX9_lays_81 : decode cX9_lays 81 = .ok (.iload 4, 2) := by decide +kernel
theorem dX9_lays_83 : decode cX9_lays 83 = .ok (.invokevirtual 107, 3) := by decide +kernel
theorem dX9_lays_86 : decode cX9_lays 86 = .ok (.ireturn, 1) := by decide +kernel
theorem dX9_takes_0 : decode cX9_takes 0 = .ok (.aload_n 0, 1) := by decide +kernel
theorem dX9_takes_1 : decode cX9_takes 1 = .ok (.iload_n 1, 1) := by decide +kernel
theorem dX9_takes_2 : decode cX9_takes 2 = .ok (.invokevirtual 111, 3) := by decide +kernel
theorem dX9_takes_5 : decode cX9_takes 5 = .ok (.ifCond .ne 5, 3) := by decide +kernel
theorem dX9_takes_8 : decode cX9_takes 8 = .ok (.iconst (-1), 1) := by decide +kernel
theorem dX9_takes_9 : decode cX9_takes 9 = .ok (.ireturn, 1) := by decide +kernel
theorem dX9_takes_10 : decode cX9_takes 10 = .ok (.aload_n 0, 1) := by decide +kernel
theorem dX9_takes_11 : decode cX9_takes 11 = .ok (.getfield 19, 3) := by decide +kernel
theorem dX9_takes_14 : decode cX9_takes 14 = .ok (.iload_n 1, 1) := by decide +kernel
theorem dX9_takes_15 : decode cX9_takes 15 = .ok (.invokevirtual 117, 3) := by decide +kernel
theorem dX9_takes_18 : decode cX9_takes 18 = .ok (.istore_n 2, 1) := by decide +kernel
theorem dX9_takes_19 : decode cX9_takes 19 = .ok (.iload_n 2, 1) := by decide +kernel
theorem dX9_takes_20 : decode cX9_takes 20 = .ok (.bipush (-9), 2) := by decide +kernel
theorem dX9_takes_22 : decode cX9_takes 22 = .ok (.if_icmp .ne 6, 3) := by decide +kernel
theorem dX9_takes_25 : decode cX9_takes 25 = .ok (.bipush (-2), 2) := by decide +kernel
theorem dX9_takes_27 : decode cX9_takes 27 = .ok (.ireturn, 1) := by decide +kernel
theorem dX9_takes_28 : decode cX9_takes 28 = .ok (.aload_n 0, 1) := by decide +kernel
theorem dX9_takes_29 : decode cX9_takes 29 = .ok (.getfield 19, 3) := by decide +kernel
theorem dX9_takes_32 : decode cX9_takes 32 = .ok (.getfield 58, 3) := by decide +kernel
theorem dX9_takes_35 : decode cX9_takes 35 = .ok (.invokevirtual 123, 3) := by decide +kernel
theorem dX9_takes_38 : decode cX9_takes 38 = .ok (.getfield 102, 3) := by decide +kernel
theorem dX9_takes_41 : decode cX9_takes 41 = .ok (.iload_n 2, 1) := by decide +kernel
theorem dX9_takes_42 : decode cX9_takes 42 = .ok (.dup2, 1) := by decide +kernel
theorem dX9_takes_43 : decode cX9_takes 43 = .ok (.iaload, 1) := by decide +kernel
theorem dX9_takes_44 : decode cX9_takes 44 = .ok (.iconst 1, 1) := by decide +kernel
theorem dX9_takes_45 : decode cX9_takes 45 = .ok (.iload_n 1, 1) := by decide +kernel
theorem dX9_takes_46 : decode cX9_takes 46 = .ok (.ishl, 1) := by decide +kernel
theorem dX9_takes_47 : decode cX9_takes 47 = .ok (.iconst (-1), 1) := by decide +kernel
theorem dX9_takes_48 : decode cX9_takes 48 = .ok (.ixor, 1) := by decide +kernel
theorem dX9_takes_49 : decode cX9_takes 49 = .ok (.iand, 1) := by decide +kernel
theorem dX9_takes_50 : decode cX9_takes 50 = .ok (.iastore, 1) := by decide +kernel
theorem dX9_takes_51 : decode cX9_takes 51 = .ok (.iload_n 2, 1) := by decide +kernel
theorem dX9_takes_52 : decode cX9_takes 52 = .ok (.ireturn, 1) := by decide +kernel
theorem dX9_breaks_0 : decode cX9_breaks 0 = .ok (.aload_n 0, 1) := by decide +kernel
theorem dX9_breaks_1 : decode cX9_breaks 1 = .ok (.getfield 19, 3) := by decide +kernel
theorem dX9_breaks_4 : decode cX9_breaks 4 = .ok (.iload_n 1, 1) := by decide +kernel
theorem dX9_breaks_5 : decode cX9_breaks 5 = .ok (.iload_n 2, 1) := by decide +kernel
theorem dX9_breaks_6 : decode cX9_breaks 6 = .ok (.invokevirtual 87, 3) := by decide +kernel
theorem dX9_breaks_9 : decode cX9_breaks 9 = .ok (.istore_n 3, 1) := by decide +kernel
theorem dX9_breaks_10 : decode cX9_breaks 10 = .ok (.iload_n 3, 1) := by decide +kernel
theorem dX9_breaks_11 : decode cX9_breaks 11 = .ok (.iconst (-1), 1) := by decide +kernel
theorem dX9_breaks_12 : decode cX9_breaks 12 = .ok (.if_icmp .ne 5, 3) := by decide +kernel
theorem dX9_breaks_15 : decode cX9_breaks 15 = .ok (.iconst (-1), 1) := by decide +kernel
theorem dX9_breaks_16 : decode cX9_breaks 16 = .ok (.ireturn, 1) := by decide +kernel
theorem dX9_breaks_17 : decode cX9_breaks 17 = .ok (.aload_n 0, 1) := by decide +kernel
theorem dX9_breaks_18 : decode cX9_breaks 18 = .ok (.getfield 19, 3) := by decide +kernel
theorem dX9_breaks_21 : decode cX9_breaks 21 = .ok (.iload_n 3, 1) := by decide +kernel
theorem dX9_breaks_22 : decode cX9_breaks 22 = .ok (.invokevirtual 95, 3) := by decide +kernel
theorem dX9_breaks_25 : decode cX9_breaks 25 = .ok (.ifCond .eq 6, 3) := by decide +kernel
theorem dX9_breaks_28 : decode cX9_breaks 28 = .ok (.bipush (-2), 2) := by decide +kernel
theorem dX9_breaks_30 : decode cX9_breaks 30 = .ok (.ireturn, 1) := by decide +kernel
theorem dX9_breaks_31 : decode cX9_breaks 31 = .ok (.aload_n 0, 1) := by decide +kernel
theorem dX9_breaks_32 : decode cX9_breaks 32 = .ok (.getfield 19, 3) := by decide +kernel
theorem dX9_breaks_35 : decode cX9_breaks 35 = .ok (.getfield 58, 3) := by decide +kernel
theorem dX9_breaks_38 : decode cX9_breaks 38 = .ok (.invokevirtual 123, 3) := by decide +kernel
theorem dX9_breaks_41 : decode cX9_breaks 41 = .ok (.astore 4, 2) := by decide +kernel
theorem dX9_breaks_43 : decode cX9_breaks 43 = .ok (.aload 4, 2) := by decide +kernel
theorem dX9_breaks_45 : decode cX9_breaks 45 = .ok (.getfield 102, 3) := by decide +kernel
theorem dX9_breaks_48 : decode cX9_breaks 48 = .ok (.iload_n 3, 1) := by decide +kernel
theorem dX9_breaks_49 : decode cX9_breaks 49 = .ok (.iaload, 1) := by decide +kernel
theorem dX9_breaks_50 : decode cX9_breaks 50 = .ok (.invokestatic 127, 3) := by decide +kernel
theorem dX9_breaks_53 : decode cX9_breaks 53 = .ok (.istore 5, 2) := by decide +kernel
theorem dX9_breaks_55 : decode cX9_breaks 55 = .ok (.aload 4, 2) := by decide +kernel
theorem dX9_breaks_57 : decode cX9_breaks 57 = .ok (.getfield 102, 3) := by decide +kernel
theorem dX9_breaks_60 : decode cX9_breaks 60 = .ok (.iload_n 3, 1) := by decide +kernel
theorem dX9_breaks_61 : decode cX9_breaks 61 = .ok (.iconst 0, 1) := by decide +kernel
theorem dX9_breaks_62 : decode cX9_breaks 62 = .ok (.iastore, 1) := by decide +kernel
theorem dX9_breaks_63 : decode cX9_breaks 63 = .ok (.aload 4, 2) := by decide +kernel
theorem dX9_breaks_65 : decode cX9_breaks 65 = .ok (.dup, 1) := by decide +kernel
theorem dX9_breaks_66 : decode cX9_breaks 66 = .ok (.getfield 132, 3) := by decide +kernel
theorem dX9_breaks_69 : decode cX9_breaks 69 = .ok (.iconst 1, 1) := by decide +kernel
theorem dX9_breaks_70 : decode cX9_breaks 70 = .ok (.iload_n 3, 1) := by decide +kernel
theorem dX9_breaks_71 : decode cX9_breaks 71 = .ok (.ishl, 1) := by decide +kernel
theorem dX9_breaks_72 : decode cX9_breaks 72 = .ok (.ior, 1) := by decide +kernel
theorem dX9_breaks_73 : decode cX9_breaks 73 = .ok (.putfield 132, 3) := by decide +kernel
theorem dX9_breaks_76 : decode cX9_breaks 76 = .ok (.iload 5, 2) := by decide +kernel
theorem dX9_breaks_78 : decode cX9_breaks 78 = .ok (.ireturn, 1) := by decide +kernel
theorem dX9_mends_0 : decode cX9_mends 0 = .ok (.aload_n 0, 1) := by decide +kernel
theorem dX9_mends_1 : decode cX9_mends 1 = .ok (.getfield 19, 3) := by decide +kernel
theorem dX9_mends_4 : decode cX9_mends 4 = .ok (.iload_n 1, 1) := by decide +kernel
theorem dX9_mends_5 : decode cX9_mends 5 = .ok (.iload_n 2, 1) := by decide +kernel
theorem dX9_mends_6 : decode cX9_mends 6 = .ok (.invokevirtual 87, 3) := by decide +kernel
theorem dX9_mends_9 : decode cX9_mends 9 = .ok (.istore_n 3, 1) := by decide +kernel
theorem dX9_mends_10 : decode cX9_mends 10 = .ok (.iload_n 3, 1) := by decide +kernel
theorem dX9_mends_11 : decode cX9_mends 11 = .ok (.iconst (-1), 1) := by decide +kernel
theorem dX9_mends_12 : decode cX9_mends 12 = .ok (.if_icmp .ne 5, 3) := by decide +kernel
theorem dX9_mends_15 : decode cX9_mends 15 = .ok (.iconst (-1), 1) := by decide +kernel
theorem dX9_mends_16 : decode cX9_mends 16 = .ok (.ireturn, 1) := by decide +kernel
theorem dX9_mends_17 : decode cX9_mends 17 = .ok (.aload_n 0, 1) := by decide +kernel
theorem dX9_mends_18 : decode cX9_mends 18 = .ok (.getfield 19, 3) := by decide +kernel
theorem dX9_mends_21 : decode cX9_mends 21 = .ok (.iload_n 3, 1) := by decide +kernel
theorem dX9_mends_22 : decode cX9_mends 22 = .ok (.invokevirtual 95, 3) := by decide +kernel
theorem dX9_mends_25 : decode cX9_mends 25 = .ok (.ifCond .ne 6, 3) := by decide +kernel
theorem dX9_mends_28 : decode cX9_mends 28 = .ok (.bipush (-2), 2) := by decide +kernel
theorem dX9_mends_30 : decode cX9_mends 30 = .ok (.ireturn, 1) := by decide +kernel
theorem dX9_mends_31 : decode cX9_mends 31 = .ok (.aload_n 0, 1) := by decide +kernel
theorem dX9_mends_32 : decode cX9_mends 32 = .ok (.getfield 19, 3) := by decide +kernel
theorem dX9_mends_35 : decode cX9_mends 35 = .ok (.getfield 58, 3) := by decide +kernel
theorem dX9_mends_38 : decode cX9_mends 38 = .ok (.invokevirtual 123, 3) := by decide +kernel
theorem dX9_mends_41 : decode cX9_mends 41 = .ok (.dup, 1) := by decide +kernel
theorem dX9_mends_42 : decode cX9_mends 42 = .ok (.getfield 132, 3) := by decide +kernel
theorem dX9_mends_45 : decode cX9_mends 45 = .ok (.iconst 1, 1) := by decide +kernel
theorem dX9_mends_46 : decode cX9_mends 46 = .ok (.iload_n 3, 1) := by decide +kernel
theorem dX9_mends_47 : decode cX9_mends 47 = .ok (.ishl, 1) := by decide +kernel
theorem dX9_mends_48 : decode cX9_mends 48 = .ok (.iconst (-1), 1) := by decide +kernel
theorem dX9_mends_49 : decode cX9_mends 49 = .ok (.ixor, 1) := by decide +kernel
theorem dX9_mends_50 : decode cX9_mends 50 = .ok (.iand, 1) := by decide +kernel
theorem dX9_mends_51 : decode cX9_mends 51 = .ok (.putfield 132, 3) := by decide +kernel
theorem dX9_mends_54 : decode cX9_mends 54 = .ok (.aload_n 0, 1) := by decide +kernel
theorem dX9_mends_55 : decode cX9_mends 55 = .ok (.getfield 19, 3) := by decide +kernel
theorem dX9_mends_58 : decode cX9_mends 58 = .ok (.getfield 62, 3) := by decide +kernel
theorem dX9_mends_61 : decode cX9_mends 61 = .ok (.getfield 91, 3) := by decide +kernel
theorem dX9_mends_64 : decode cX9_mends 64 = .ok (.iload_n 3, 1) := by decide +kernel
theorem dX9_mends_65 : decode cX9_mends 65 = .ok (.iaload, 1) := by decide +kernel
theorem dX9_mends_66 : decode cX9_mends 66 = .ok (.ireturn, 1) := by decide +kernel
theorem dX9_moves_0 : decode cX9_moves 0 = .ok (.iload_n 1, 1) := by decide +kernel
theorem dX9_moves_1 : decode cX9_moves 1 = .ok (.iconst 1, 1) := by decide +kernel
theorem dX9_moves_2 : decode cX9_moves 2 = .ok (.if_icmp .lt 18, 3) := by decide +kernel
theorem dX9_moves_5 : decode cX9_moves 5 = .ok (.iload_n 1, 1) := by decide +kernel
theorem dX9_moves_6 : decode cX9_moves 6 = .ok (.bipush 12, 2) := by decide +kernel
theorem dX9_moves_8 : decode cX9_moves 8 = .ok (.if_icmp .gt 12, 3) := by decide +kernel
theorem dX9_moves_11 : decode cX9_moves 11 = .ok (.iload_n 2, 1) := by decide +kernel
theorem dX9_moves_12 : decode cX9_moves 12 = .ok (.ifCond .lt 8, 3) := by decide +kernel
theorem dX9_moves_15 : decode cX9_moves 15 = .ok (.iload_n 2, 1) := by decide +kernel
theorem dX9_moves_16 : decode cX9_moves 16 = .ok (.iconst 3, 1) := by decide +kernel
theorem dX9_moves_17 : decode cX9_moves 17 = .ok (.if_icmp .le 5, 3) := by decide +kernel
theorem dX9_moves_20 : decode cX9_moves 20 = .ok (.iconst (-1), 1) := by decide +kernel
theorem dX9_moves_21 : decode cX9_moves 21 = .ok (.ireturn, 1) := by decide +kernel
theorem dX9_moves_22 : decode cX9_moves 22 = .ok (.aload_n 0, 1) := by decide +kernel
theorem dX9_moves_23 : decode cX9_moves 23 = .ok (.getfield 19, 3) := by decide +kernel
theorem dX9_moves_26 : decode cX9_moves 26 = .ok (.getfield 58, 3) := by decide +kernel
theorem dX9_moves_29 : decode cX9_moves 29 = .ok (.getfield 98, 3) := by decide +kernel
theorem dX9_moves_32 : decode cX9_moves 32 = .ok (.getfield 135, 3) := by decide +kernel
theorem dX9_moves_35 : decode cX9_moves 35 = .ok (.iload_n 1, 1) := by decide +kernel
theorem dX9_moves_36 : decode cX9_moves 36 = .ok (.if_icmp .ne 23, 3) := by decide +kernel
theorem dX9_moves_39 : decode cX9_moves 39 = .ok (.aload_n 0, 1) := by decide +kernel
theorem dX9_moves_40 : decode cX9_moves 40 = .ok (.getfield 19, 3) := by decide +kernel
theorem dX9_moves_43 : decode cX9_moves 43 = .ok (.getfield 58, 3) := by decide +kernel
theorem dX9_moves_46 : decode cX9_moves 46 = .ok (.getfield 98, 3) := by decide +kernel
theorem dX9_moves_49 : decode cX9_moves 49 = .ok (.getfield 138, 3) := by decide +kernel
theorem dX9_moves_52 : decode cX9_moves 52 = .ok (.iload_n 2, 1) := by decide +kernel
theorem dX9_moves_53 : decode cX9_moves 53 = .ok (.if_icmp .ne 6, 3) := by decide +kernel
theorem dX9_moves_56 : decode cX9_moves 56 = .ok (.bipush (-2), 2) := by decide +kernel
theorem dX9_moves_58 : decode cX9_moves 58 = .ok (.ireturn, 1) := by decide +kernel
theorem dX9_moves_59 : decode cX9_moves 59 = .ok (.aload_n 0, 1) := by decide +kernel
theorem dX9_moves_60 : decode cX9_moves 60 = .ok (.getfield 19, 3) := by decide +kernel
theorem dX9_moves_63 : decode cX9_moves 63 = .ok (.getfield 58, 3) := by decide +kernel
theorem dX9_moves_66 : decode cX9_moves 66 = .ok (.invokevirtual 123, 3) := by decide +kernel
theorem dX9_moves_69 : decode cX9_moves 69 = .ok (.astore_n 3, 1) := by decide +kernel
theorem dX9_moves_70 : decode cX9_moves 70 = .ok (.aload_n 3, 1) := by decide +kernel
theorem dX9_moves_71 : decode cX9_moves 71 = .ok (.iload_n 1, 1) := by decide +kernel
theorem dX9_moves_72 : decode cX9_moves 72 = .ok (.putfield 135, 3) := by decide +kernel
theorem dX9_moves_75 : decode cX9_moves 75 = .ok (.aload_n 3, 1) := by decide +kernel
theorem dX9_moves_76 : decode cX9_moves 76 = .ok (.iload_n 2, 1) := by decide +kernel
theorem dX9_moves_77 : decode cX9_moves 77 = .ok (.putfield 138, 3) := by decide +kernel
theorem dX9_moves_80 : decode cX9_moves 80 = .ok (.aload_n 0, 1) := by decide +kernel
theorem dX9_moves_81 : decode cX9_moves 81 = .ok (.getfield 19, 3) := by decide +kernel
theorem dX9_moves_84 : decode cX9_moves 84 = .ok (.invokevirtual 141, 3) := by decide +kernel
theorem dX9_moves_87 : decode cX9_moves 87 = .ok (.ireturn, 1) := by decide +kernel
theorem dX9_undo_0 : decode cX9_undo 0 = .ok (.aload_n 0, 1) := by decide +kernel
theorem dX9_undo_1 : decode cX9_undo 1 = .ok (.getfield 19, 3) := by decide +kernel
theorem dX9_undo_4 : decode cX9_undo 4 = .ok (.getfield 58, 3) := by decide +kernel
theorem dX9_undo_7 : decode cX9_undo 7 = .ok (.getfield 145, 3) := by decide +kernel
end
section
theorem dX9_undo_10 : decode cX9_undo 10 = .ok (.ifCond .ne 6, 3) := by decide +kernel
theorem dX9_undo_13 : decode cX9_undo 13 = .ok (.bipush (-2), 2) := by decide +kernel
theorem dX9_undo_15 : decode cX9_undo 15 = .ok (.ireturn, 1) := by decide +kernel
theorem dX9_undo_16 : decode cX9_undo 16 = .ok (.aload_n 0, 1) := by decide +kernel
theorem dX9_undo_17 : decode cX9_undo 17 = .ok (.getfield 19, 3) := by decide +kernel
theorem dX9_undo_20 : decode cX9_undo 20 = .ok (.getfield 58, 3) := by decide +kernel
theorem dX9_undo_23 : decode cX9_undo 23 = .ok (.invokevirtual 148, 3) := by decide +kernel
theorem dX9_undo_26 : decode cX9_undo 26 = .ok (.aload_n 0, 1) := by decide +kernel
theorem dX9_undo_27 : decode cX9_undo 27 = .ok (.getfield 19, 3) := by decide +kernel
theorem dX9_undo_30 : decode cX9_undo 30 = .ok (.getfield 58, 3) := by decide +kernel
theorem dX9_undo_33 : decode cX9_undo 33 = .ok (.getfield 145, 3) := by decide +kernel
theorem dX9_undo_36 : decode cX9_undo 36 = .ok (.ireturn, 1) := by decide +kernel
theorem dX9_now_0 : decode cX9_now 0 = .ok (.iload_n 1, 1) := by decide +kernel
theorem dX9_now_1 : decode cX9_now 1 = .ok (.tableswitch 117 0 6 #[43, 57, 71, 85, 93, 101, 109], 43) := by decide +kernel
theorem dX9_now_44 : decode cX9_now 44 = .ok (.aload_n 0, 1) := by decide +kernel
theorem dX9_now_45 : decode cX9_now 45 = .ok (.getfield 19, 3) := by decide +kernel
theorem dX9_now_48 : decode cX9_now 48 = .ok (.getfield 58, 3) := by decide +kernel
theorem dX9_now_51 : decode cX9_now 51 = .ok (.getfield 98, 3) := by decide +kernel
theorem dX9_now_54 : decode cX9_now 54 = .ok (.getfield 135, 3) := by decide +kernel
theorem dX9_now_57 : decode cX9_now 57 = .ok (.ireturn, 1) := by decide +kernel
theorem dX9_now_58 : decode cX9_now 58 = .ok (.aload_n 0, 1) := by decide +kernel
theorem dX9_now_59 : decode cX9_now 59 = .ok (.getfield 19, 3) := by decide +kernel
theorem dX9_now_62 : decode cX9_now 62 = .ok (.getfield 58, 3) := by decide +kernel
theorem dX9_now_65 : decode cX9_now 65 = .ok (.getfield 98, 3) := by decide +kernel
theorem dX9_now_68 : decode cX9_now 68 = .ok (.getfield 138, 3) := by decide +kernel
theorem dX9_now_71 : decode cX9_now 71 = .ok (.ireturn, 1) := by decide +kernel
theorem dX9_now_72 : decode cX9_now 72 = .ok (.aload_n 0, 1) := by decide +kernel
theorem dX9_now_73 : decode cX9_now 73 = .ok (.getfield 19, 3) := by decide +kernel
theorem dX9_now_76 : decode cX9_now 76 = .ok (.getfield 58, 3) := by decide +kernel
theorem dX9_now_79 : decode cX9_now 79 = .ok (.getfield 98, 3) := by decide +kernel
theorem dX9_now_82 : decode cX9_now 82 = .ok (.getfield 132, 3) := by decide +kernel
theorem dX9_now_85 : decode cX9_now 85 = .ok (.ireturn, 1) := by decide +kernel
theorem dX9_now_86 : decode cX9_now 86 = .ok (.aload_n 0, 1) := by decide +kernel
theorem dX9_now_87 : decode cX9_now 87 = .ok (.getfield 19, 3) := by decide +kernel
theorem dX9_now_90 : decode cX9_now 90 = .ok (.invokevirtual 151, 3) := by decide +kernel
theorem dX9_now_93 : decode cX9_now 93 = .ok (.ireturn, 1) := by decide +kernel
theorem dX9_now_94 : decode cX9_now 94 = .ok (.aload_n 0, 1) := by decide +kernel
theorem dX9_now_95 : decode cX9_now 95 = .ok (.getfield 19, 3) := by decide +kernel
theorem dX9_now_98 : decode cX9_now 98 = .ok (.invokestatic 154, 3) := by decide +kernel
theorem dX9_now_101 : decode cX9_now 101 = .ok (.ireturn, 1) := by decide +kernel
theorem dX9_now_102 : decode cX9_now 102 = .ok (.aload_n 0, 1) := by decide +kernel
theorem dX9_now_103 : decode cX9_now 103 = .ok (.getfield 19, 3) := by decide +kernel
theorem dX9_now_106 : decode cX9_now 106 = .ok (.invokestatic 160, 3) := by decide +kernel
theorem dX9_now_109 : decode cX9_now 109 = .ok (.ireturn, 1) := by decide +kernel
theorem dX9_now_110 : decode cX9_now 110 = .ok (.aload_n 0, 1) := by decide +kernel
theorem dX9_now_111 : decode cX9_now 111 = .ok (.getfield 19, 3) := by decide +kernel
theorem dX9_now_114 : decode cX9_now 114 = .ok (.invokestatic 163, 3) := by decide +kernel
theorem dX9_now_117 : decode cX9_now 117 = .ok (.ireturn, 1) := by decide +kernel
theorem dX9_now_118 : decode cX9_now 118 = .ok (.iconst (-1), 1) := by decide +kernel
theorem dX9_now_119 : decode cX9_now 119 = .ok (.ireturn, 1) := by decide +kernel
theorem dX9_light_0 : decode cX9_light 0 = .ok (.iload_n 1, 1) := by decide +kernel
theorem dX9_light_1 : decode cX9_light 1 = .ok (.iload_n 2, 1) := by decide +kernel
theorem dX9_light_2 : decode cX9_light 2 = .ok (.invokestatic 166, 3) := by decide +kernel
theorem dX9_light_5 : decode cX9_light 5 = .ok (.ifCond .eq 10, 3) := by decide +kernel
theorem dX9_light_8 : decode cX9_light 8 = .ok (.iload_n 3, 1) := by decide +kernel
theorem dX9_light_9 : decode cX9_light 9 = .ok (.invokestatic 170, 3) := by decide +kernel
theorem dX9_light_12 : decode cX9_light 12 = .ok (.ifCond .ne 5, 3) := by decide +kernel
theorem dX9_light_15 : decode cX9_light 15 = .ok (.iconst (-1), 1) := by decide +kernel
theorem dX9_light_16 : decode cX9_light 16 = .ok (.ireturn, 1) := by decide +kernel
theorem dX9_light_17 : decode cX9_light 17 = .ok (.aload_n 0, 1) := by decide +kernel
theorem dX9_light_18 : decode cX9_light 18 = .ok (.getfield 19, 3) := by decide +kernel
theorem dX9_light_21 : decode cX9_light 21 = .ok (.iload_n 1, 1) := by decide +kernel
theorem dX9_light_22 : decode cX9_light 22 = .ok (.iload_n 2, 1) := by decide +kernel
theorem dX9_light_23 : decode cX9_light 23 = .ok (.invokestatic 173, 3) := by decide +kernel
theorem dX9_light_26 : decode cX9_light 26 = .ok (.iload_n 3, 1) := by decide +kernel
theorem dX9_light_27 : decode cX9_light 27 = .ok (.invokevirtual 176, 3) := by decide +kernel
theorem dX9_light_30 : decode cX9_light 30 = .ok (.ireturn, 1) := by decide +kernel
theorem dX9_lit_0 : decode cX9_lit 0 = .ok (.iload_n 1, 1) := by decide +kernel
theorem dX9_lit_1 : decode cX9_lit 1 = .ok (.invokestatic 179, 3) := by decide +kernel
theorem dX9_lit_4 : decode cX9_lit 4 = .ok (.ifCond .eq 19, 3) := by decide +kernel
theorem dX9_lit_7 : decode cX9_lit 7 = .ok (.iload_n 2, 1) := by decide +kernel
theorem dX9_lit_8 : decode cX9_lit 8 = .ok (.invokestatic 170, 3) := by decide +kernel
theorem dX9_lit_11 : decode cX9_lit 11 = .ok (.ifCond .eq 12, 3) := by decide +kernel
theorem dX9_lit_14 : decode cX9_lit 14 = .ok (.iload_n 3, 1) := by decide +kernel
theorem dX9_lit_15 : decode cX9_lit 15 = .ok (.ifCond .lt 8, 3) := by decide +kernel
theorem dX9_lit_18 : decode cX9_lit 18 = .ok (.iload_n 3, 1) := by decide +kernel
theorem dX9_lit_19 : decode cX9_lit 19 = .ok (.iconst 1, 1) := by decide +kernel
theorem dX9_lit_20 : decode cX9_lit 20 = .ok (.if_icmp .le 5, 3) := by decide +kernel
theorem dX9_lit_23 : decode cX9_lit 23 = .ok (.iconst (-1), 1) := by decide +kernel
theorem dX9_lit_24 : decode cX9_lit 24 = .ok (.ireturn, 1) := by decide +kernel
theorem dX9_lit_25 : decode cX9_lit 25 = .ok (.bipush (-9), 2) := by decide +kernel
theorem dX9_lit_27 : decode cX9_lit 27 = .ok (.istore 4, 2) := by decide +kernel
theorem dX9_lit_29 : decode cX9_lit 29 = .ok (.iconst 0, 1) := by decide +kernel
theorem dX9_lit_30 : decode cX9_lit 30 = .ok (.istore 5, 2) := by decide +kernel
theorem dX9_lit_32 : decode cX9_lit 32 = .ok (.bipush 83, 2) := by decide +kernel
theorem dX9_lit_34 : decode cX9_lit 34 = .ok (.istore 6, 2) := by decide +kernel
theorem dX9_lit_36 : decode cX9_lit 36 = .ok (.iload 6, 2) := by decide +kernel
theorem dX9_lit_38 : decode cX9_lit 38 = .ok (.ifCond .lt 30, 3) := by decide +kernel
theorem dX9_lit_41 : decode cX9_lit 41 = .ok (.aload_n 0, 1) := by decide +kernel
theorem dX9_lit_42 : decode cX9_lit 42 = .ok (.getfield 19, 3) := by decide +kernel
theorem dX9_lit_45 : decode cX9_lit 45 = .ok (.iload 6, 2) := by decide +kernel
theorem dX9_lit_47 : decode cX9_lit 47 = .ok (.iload_n 2, 1) := by decide +kernel
theorem dX9_lit_48 : decode cX9_lit 48 = .ok (.invokevirtual 176, 3) := by decide +kernel
theorem dX9_lit_51 : decode cX9_lit 51 = .ok (.iload_n 1, 1) := by decide +kernel
theorem dX9_lit_52 : decode cX9_lit 52 = .ok (.if_icmp .ne 10, 3) := by decide +kernel
theorem dX9_lit_55 : decode cX9_lit 55 = .ok (.iload 6, 2) := by decide +kernel
theorem dX9_lit_57 : decode cX9_lit 57 = .ok (.istore 4, 2) := by decide +kernel
theorem dX9_lit_59 : decode cX9_lit 59 = .ok (.iinc 5 1, 3) := by decide +kernel
theorem dX9_lit_62 : decode cX9_lit 62 = .ok (.iinc 6 (-1), 3) := by decide +kernel
theorem dX9_lit_65 : decode cX9_lit 65 = .ok (.goto (-29), 3) := by decide +kernel
theorem dX9_lit_68 : decode cX9_lit 68 = .ok (.iload_n 3, 1) := by decide +kernel
theorem dX9_lit_69 : decode cX9_lit 69 = .ok (.ifCond .ne 8, 3) := by decide +kernel
theorem dX9_lit_72 : decode cX9_lit 72 = .ok (.iload 5, 2) := by decide +kernel
theorem dX9_lit_74 : decode cX9_lit 74 = .ok (.goto 5, 3) := by decide +kernel
theorem dX9_lit_77 : decode cX9_lit 77 = .ok (.iload 4, 2) := by decide +kernel
theorem dX9_lit_79 : decode cX9_lit 79 = .ok (.ireturn, 1) := by decide +kernel
theorem dX9_when_0 : decode cX9_when 0 = .ok (.iload_n 1, 1) := by decide +kernel
theorem dX9_when_1 : decode cX9_when 1 = .ok (.iload_n 2, 1) := by decide +kernel
theorem dX9_when_2 : decode cX9_when 2 = .ok (.invokestatic 166, 3) := by decide +kernel
theorem dX9_when_5 : decode cX9_when 5 = .ok (.ifCond .eq 10, 3) := by decide +kernel
theorem dX9_when_8 : decode cX9_when 8 = .ok (.iload_n 3, 1) := by decide +kernel
theorem dX9_when_9 : decode cX9_when 9 = .ok (.invokestatic 179, 3) := by decide +kernel
theorem dX9_when_12 : decode cX9_when 12 = .ok (.ifCond .ne 5, 3) := by decide +kernel
theorem dX9_when_15 : decode cX9_when 15 = .ok (.iconst (-1), 1) := by decide +kernel
theorem dX9_when_16 : decode cX9_when 16 = .ok (.ireturn, 1) := by decide +kernel
theorem dX9_when_17 : decode cX9_when 17 = .ok (.iconst 0, 1) := by decide +kernel
theorem dX9_when_18 : decode cX9_when 18 = .ok (.istore 4, 2) := by decide +kernel
theorem dX9_when_20 : decode cX9_when 20 = .ok (.iload 4, 2) := by decide +kernel
theorem dX9_when_22 : decode cX9_when 22 = .ok (.bipush 8, 2) := by decide +kernel
theorem dX9_when_24 : decode cX9_when 24 = .ok (.if_icmp .ge 30, 3) := by decide +kernel
theorem dX9_when_27 : decode cX9_when 27 = .ok (.aload_n 0, 1) := by decide +kernel
theorem dX9_when_28 : decode cX9_when 28 = .ok (.getfield 19, 3) := by decide +kernel
theorem dX9_when_31 : decode cX9_when 31 = .ok (.iload_n 1, 1) := by decide +kernel
theorem dX9_when_32 : decode cX9_when 32 = .ok (.iload_n 2, 1) := by decide +kernel
theorem dX9_when_33 : decode cX9_when 33 = .ok (.invokestatic 173, 3) := by decide +kernel
theorem dX9_when_36 : decode cX9_when 36 = .ok (.iload 4, 2) := by decide +kernel
theorem dX9_when_38 : decode cX9_when 38 = .ok (.invokevirtual 176, 3) := by decide +kernel
theorem dX9_when_41 : decode cX9_when 41 = .ok (.iload_n 3, 1) := by decide +kernel
theorem dX9_when_42 : decode cX9_when 42 = .ok (.if_icmp .ne 6, 3) := by decide +kernel
theorem dX9_when_45 : decode cX9_when 45 = .ok (.iload 4, 2) := by decide +kernel
theorem dX9_when_47 : decode cX9_when 47 = .ok (.ireturn, 1) := by decide +kernel
theorem dX9_when_48 : decode cX9_when 48 = .ok (.iinc 4 1, 3) := by decide +kernel
theorem dX9_when_51 : decode cX9_when 51 = .ok (.goto (-31), 3) := by decide +kernel
theorem dX9_when_54 : decode cX9_when 54 = .ok (.bipush (-9), 2) := by decide +kernel
theorem dX9_when_56 : decode cX9_when 56 = .ok (.ireturn, 1) := by decide +kernel
theorem dX9_mix_0 : decode cX9_mix 0 = .ok (.iload_n 1, 1) := by decide +kernel
theorem dX9_mix_1 : decode cX9_mix 1 = .ok (.iload_n 2, 1) := by decide +kernel
theorem dX9_mix_2 : decode cX9_mix 2 = .ok (.invokestatic 166, 3) := by decide +kernel
theorem dX9_mix_5 : decode cX9_mix 5 = .ok (.ifCond .eq 29, 3) := by decide +kernel
theorem dX9_mix_8 : decode cX9_mix 8 = .ok (.iload_n 3, 1) := by decide +kernel
theorem dX9_mix_9 : decode cX9_mix 9 = .ok (.invokestatic 170, 3) := by decide +kernel
theorem dX9_mix_12 : decode cX9_mix 12 = .ok (.ifCond .eq 22, 3) := by decide +kernel
theorem dX9_mix_15 : decode cX9_mix 15 = .ok (.iload 4, 2) := by decide +kernel
theorem dX9_mix_17 : decode cX9_mix 17 = .ok (.invokestatic 179, 3) := by decide +kernel
theorem dX9_mix_20 : decode cX9_mix 20 = .ok (.ifCond .eq 14, 3) := by decide +kernel
theorem dX9_mix_23 : decode cX9_mix 23 = .ok (.iload 5, 2) := by decide +kernel
theorem dX9_mix_25 : decode cX9_mix 25 = .ok (.ifCond .lt 9, 3) := by decide +kernel
theorem dX9_mix_28 : decode cX9_mix 28 = .ok (.iload 5, 2) := by decide +kernel
theorem dX9_mix_30 : decode cX9_mix 30 = .ok (.iconst 2, 1) := by decide +kernel
theorem dX9_mix_31 : decode cX9_mix 31 = .ok (.if_icmp .le 5, 3) := by decide +kernel
theorem dX9_mix_34 : decode cX9_mix 34 = .ok (.iconst (-1), 1) := by decide +kernel
theorem dX9_mix_35 : decode cX9_mix 35 = .ok (.ireturn, 1) := by decide +kernel
theorem dX9_mix_36 : decode cX9_mix 36 = .ok (.aload_n 0, 1) := by decide +kernel
theorem dX9_mix_37 : decode cX9_mix 37 = .ok (.getfield 26, 3) := by decide +kernel
theorem dX9_mix_40 : decode cX9_mix 40 = .ok (.aload_n 0, 1) := by decide +kernel
theorem dX9_mix_41 : decode cX9_mix 41 = .ok (.getfield 19, 3) := by decide +kernel
theorem dX9_mix_44 : decode cX9_mix 44 = .ok (.iload_n 1, 1) := by decide +kernel
theorem dX9_mix_45 : decode cX9_mix 45 = .ok (.iload_n 2, 1) := by decide +kernel
theorem dX9_mix_46 : decode cX9_mix 46 = .ok (.invokestatic 173, 3) := by decide +kernel
theorem dX9_mix_49 : decode cX9_mix 49 = .ok (.iload_n 3, 1) := by decide +kernel
theorem dX9_mix_50 : decode cX9_mix 50 = .ok (.iload 4, 2) := by decide +kernel
theorem dX9_mix_52 : decode cX9_mix 52 = .ok (.invokevirtual 182, 3) := by decide +kernel
theorem dX9_mix_55 : decode cX9_mix 55 = .ok (.aload_n 0, 1) := by decide +kernel
theorem dX9_mix_56 : decode cX9_mix 56 = .ok (.getfield 26, 3) := by decide +kernel
theorem dX9_mix_59 : decode cX9_mix 59 = .ok (.getfield 186, 3) := by decide +kernel
theorem dX9_mix_62 : decode cX9_mix 62 = .ok (.ifCond .ne 6, 3) := by decide +kernel
theorem dX9_mix_65 : decode cX9_mix 65 = .ok (.bipush (-9), 2) := by decide +kernel
theorem dX9_mix_67 : decode cX9_mix 67 = .ok (.ireturn, 1) := by decide +kernel
theorem dX9_mix_68 : decode cX9_mix 68 = .ok (.iload 5, 2) := by decide +kernel
theorem dX9_mix_70 : decode cX9_mix 70 = .ok (.lookupswitch 42 #[(0, 26), (1, 34)], 26) := by decide +kernel
theorem dX9_mix_96 : decode cX9_mix 96 = .ok (.aload_n 0, 1) := by decide +kernel
theorem dX9_mix_97 : decode cX9_mix 97 = .ok (.getfield 26, 3) := by decide +kernel
theorem dX9_mix_100 : decode cX9_mix 100 = .ok (.getfield 190, 3) := by decide +kernel
theorem dX9_mix_103 : decode cX9_mix 103 = .ok (.ireturn, 1) := by decide +kernel
theorem dX9_mix_104 : decode cX9_mix 104 = .ok (.aload_n 0, 1) := by decide +kernel
theorem dX9_mix_105 : decode cX9_mix 105 = .ok (.getfield 26, 3) := by decide +kernel
theorem dX9_mix_108 : decode cX9_mix 108 = .ok (.getfield 193, 3) := by decide +kernel
theorem dX9_mix_111 : decode cX9_mix 111 = .ok (.ireturn, 1) := by decide +kernel
theorem dX9_mix_112 : decode cX9_mix 112 = .ok (.aload_n 0, 1) := by decide +kernel
theorem dX9_mix_113 : decode cX9_mix 113 = .ok (.getfield 26, 3) := by decide +kernel
theorem dX9_mix_116 : decode cX9_mix 116 = .ok (.getfield 196, 3) := by decide +kernel
theorem dX9_mix_119 : decode cX9_mix 119 = .ok (.ireturn, 1) := by decide +kernel
theorem dX9_child_0 : decode cX9_child 0 = .ok (.iload_n 1, 1) := by decide +kernel
theorem dX9_child_1 : decode cX9_child 1 = .ok (.iload_n 2, 1) := by decide +kernel
theorem dX9_child_2 : decode cX9_child 2 = .ok (.invokestatic 166, 3) := by decide +kernel
theorem dX9_child_5 : decode cX9_child 5 = .ok (.ifCond .eq 23, 3) := by decide +kernel
theorem dX9_child_8 : decode cX9_child 8 = .ok (.iload_n 3, 1) := by decide +kernel
theorem dX9_child_9 : decode cX9_child 9 = .ok (.invokestatic 170, 3) := by decide +kernel
theorem dX9_child_12 : decode cX9_child 12 = .ok (.ifCond .eq 16, 3) := by decide +kernel
theorem dX9_child_15 : decode cX9_child 15 = .ok (.iload 4, 2) := by decide +kernel
theorem dX9_child_17 : decode cX9_child 17 = .ok (.invokestatic 179, 3) := by decide +kernel
theorem dX9_child_20 : decode cX9_child 20 = .ok (.ifCond .eq 8, 3) := by decide +kernel
theorem dX9_child_23 : decode cX9_child 23 = .ok (.iload 4, 2) := by decide +kernel
theorem dX9_child_25 : decode cX9_child 25 = .ok (.ifCond .ne 5, 3) := by decide +kernel
theorem dX9_child_28 : decode cX9_child 28 = .ok (.iconst (-1), 1) := by decide +kernel
theorem dX9_child_29 : decode cX9_child 29 = .ok (.ireturn, 1) := by decide +kernel
theorem dX9_child_30 : decode cX9_child 30 = .ok (.iload 5, 2) := by decide +kernel
theorem dX9_child_32 : decode cX9_child 32 = .ok (.iconst (-1), 1) := by decide +kernel
theorem dX9_child_33 : decode cX9_child 33 = .ok (.if_icmp .lt 10, 3) := by decide +kernel
theorem dX9_child_36 : decode cX9_child 36 = .ok (.iload 5, 2) := by decide +kernel
theorem dX9_child_38 : decode cX9_child 38 = .ok (.bipush 8, 2) := by decide +kernel
theorem dX9_child_40 : decode cX9_child 40 = .ok (.if_icmp .lt 5, 3) := by decide +kernel
theorem dX9_child_43 : decode cX9_child 43 = .ok (.iconst (-1), 1) := by decide +kernel
theorem dX9_child_44 : decode cX9_child 44 = .ok (.ireturn, 1) := by decide +kernel
theorem dX9_child_45 : decode cX9_child 45 = .ok (.aload_n 0, 1) := by decide +kernel
theorem dX9_child_46 : decode cX9_child 46 = .ok (.getfield 33, 3) := by decide +kernel
theorem dX9_child_49 : decode cX9_child 49 = .ok (.aload_n 0, 1) := by decide +kernel
theorem dX9_child_50 : decode cX9_child 50 = .ok (.getfield 19, 3) := by decide +kernel
theorem dX9_child_53 : decode cX9_child 53 = .ok (.iload_n 1, 1) := by decide +kernel
theorem dX9_child_54 : decode cX9_child 54 = .ok (.iload_n 2, 1) := by decide +kernel
theorem dX9_child_55 : decode cX9_child 55 = .ok (.invokestatic 173, 3) := by decide +kernel
theorem dX9_child_58 : decode cX9_child 58 = .ok (.iload_n 3, 1) := by decide +kernel
theorem dX9_child_59 : decode cX9_child 59 = .ok (.iload 4, 2) := by decide +kernel
theorem dX9_child_61 : decode cX9_child 61 = .ok (.invokevirtual 199, 3) := by decide +kernel
theorem dX9_child_64 : decode cX9_child 64 = .ok (.istore 6, 2) := by decide +kernel
theorem dX9_child_66 : decode cX9_child 66 = .ok (.iload 5, 2) := by decide +kernel
theorem dX9_child_68 : decode cX9_child 68 = .ok (.iconst (-1), 1) := by decide +kernel
theorem dX9_child_69 : decode cX9_child 69 = .ok (.if_icmp .ne 6, 3) := by decide +kernel
theorem dX9_child_72 : decode cX9_child 72 = .ok (.iload 6, 2) := by decide +kernel
theorem dX9_child_74 : decode cX9_child 74 = .ok (.ireturn, 1) := by decide +kernel
theorem dX9_child_75 : decode cX9_child 75 = .ok (.iload 5, 2) := by decide +kernel
theorem dX9_child_77 : decode cX9_child 77 = .ok (.iload 6, 2) := by decide +kernel
theorem dX9_child_79 : decode cX9_child 79 = .ok (.if_icmp .ge 21, 3) := by decide +kernel
theorem dX9_child_82 : decode cX9_child 82 = .ok (.aload_n 0, 1) := by decide +kernel
theorem dX9_child_83 : decode cX9_child 83 = .ok (.getfield 33, 3) := by decide +kernel
theorem dX9_child_86 : decode cX9_child 86 = .ok (.iload_n 1, 1) := by decide +kernel
theorem dX9_child_87 : decode cX9_child 87 = .ok (.iload_n 2, 1) := by decide +kernel
theorem dX9_child_88 : decode cX9_child 88 = .ok (.invokestatic 173, 3) := by decide +kernel
theorem dX9_child_91 : decode cX9_child 91 = .ok (.iload_n 3, 1) := by decide +kernel
theorem dX9_child_92 : decode cX9_child 92 = .ok (.iload 5, 2) := by decide +kernel
theorem dX9_child_94 : decode cX9_child 94 = .ok (.invokevirtual 203, 3) := by decide +kernel
theorem dX9_child_97 : decode cX9_child 97 = .ok (.goto 5, 3) := by decide +kernel
theorem dX9_child_100 : decode cX9_child 100 = .ok (.bipush (-9), 2) := by decide +kernel
theorem dX9_child_102 : decode cX9_child 102 = .ok (.ireturn, 1) := by decide +kernel
theorem dX9_paint_0 : decode cX9_paint 0 = .ok (.iload_n 1, 1) := by decide +kernel
theorem dX9_paint_1 : decode cX9_paint 1 = .ok (.ifCond .lt 8, 3) := by decide +kernel
theorem dX9_paint_4 : decode cX9_paint 4 = .ok (.iload_n 1, 1) := by decide +kernel
theorem dX9_paint_5 : decode cX9_paint 5 = .ok (.iconst 1, 1) := by decide +kernel
theorem dX9_paint_6 : decode cX9_paint 6 = .ok (.if_icmp .le 5, 3) := by decide +kernel
theorem dX9_paint_9 : decode cX9_paint 9 = .ok (.iconst (-1), 1) := by decide +kernel
theorem dX9_paint_10 : decode cX9_paint 10 = .ok (.ireturn, 1) := by decide +kernel
theorem dX9_paint_11 : decode cX9_paint 11 = .ok (.aload_n 0, 1) := by decide +kernel
theorem dX9_paint_12 : decode cX9_paint 12 = .ok (.getfield 19, 3) := by decide +kernel
theorem dX9_paint_15 : decode cX9_paint 15 = .ok (.invokestatic 207, 3) := by decide +kernel
theorem dX9_paint_18 : decode cX9_paint 18 = .ok (.istore_n 2, 1) := by decide +kernel
theorem dX9_paint_19 : decode cX9_paint 19 = .ok (.iload_n 1, 1) := by decide +kernel
theorem dX9_paint_20 : decode cX9_paint 20 = .ok (.ifCond .ne 7, 3) := by decide +kernel
theorem dX9_paint_23 : decode cX9_paint 23 = .ok (.iload_n 2, 1) := by decide +kernel
theorem dX9_paint_24 : decode cX9_paint 24 = .ok (.goto 18, 3) := by decide +kernel
theorem dX9_paint_27 : decode cX9_paint 27 = .ok (.aload_n 0, 1) := by decide +kernel
theorem dX9_paint_28 : decode cX9_paint 28 = .ok (.getfield 19, 3) := by decide +kernel
theorem dX9_paint_31 : decode cX9_paint 31 = .ok (.iload_n 2, 1) := by decide +kernel
theorem dX9_paint_32 : decode cX9_paint 32 = .ok (.bipush 8, 2) := by decide +kernel
theorem dX9_paint_34 : decode cX9_paint 34 = .ok (.idiv, 1) := by decide +kernel
theorem dX9_paint_35 : decode cX9_paint 35 = .ok (.iload_n 2, 1) := by decide +kernel
theorem dX9_paint_36 : decode cX9_paint 36 = .ok (.bipush 8, 2) := by decide +kernel
theorem dX9_paint_38 : decode cX9_paint 38 = .ok (.irem, 1) := by decide +kernel
theorem dX9_paint_39 : decode cX9_paint 39 = .ok (.invokestatic 210, 3) := by decide +kernel
theorem dX9_paint_42 : decode cX9_paint 42 = .ok (.ireturn, 1) := by decide +kernel
theorem dX9_hail_0 : decode cX9_hail 0 = .ok (.iload_n 1, 1) := by decide +kernel
theorem dX9_hail_1 : decode cX9_hail 1 = .ok (.iload_n 2, 1) := by decide +kernel
theorem dX9_hail_2 : decode cX9_hail 2 = .ok (.invokestatic 166, 3) := by decide +kernel
theorem dX9_hail_5 : decode cX9_hail 5 = .ok (.ifCond .eq 33, 3) := by decide +kernel
theorem dX9_hail_8 : decode cX9_hail 8 = .ok (.iload_n 3, 1) := by decide +kernel
theorem dX9_hail_9 : decode cX9_hail 9 = .ok (.invokestatic 170, 3) := by decide +kernel
theorem dX9_hail_12 : decode cX9_hail 12 = .ok (.ifCond .eq 26, 3) := by decide +kernel
theorem dX9_hail_15 : decode cX9_hail 15 = .ok (.iload 4, 2) := by decide +kernel
theorem dX9_hail_17 : decode cX9_hail 17 = .ok (.ifCond .lt 21, 3) := by decide +kernel
theorem dX9_hail_20 : decode cX9_hail 20 = .ok (.iload 4, 2) := by decide +kernel
theorem dX9_hail_22 : decode cX9_hail 22 = .ok (.bipush 10, 2) := by decide +kernel
theorem dX9_hail_24 : decode cX9_hail 24 = .ok (.if_icmp .gt 14, 3) := by decide +kernel
theorem dX9_hail_27 : decode cX9_hail 27 = .ok (.iload 5, 2) := by decide +kernel
theorem dX9_hail_29 : decode cX9_hail 29 = .ok (.ifCond .lt 9, 3) := by decide +kernel
theorem dX9_hail_32 : decode cX9_hail 32 = .ok (.iload 5, 2) := by decide +kernel
theorem dX9_hail_34 : decode cX9_hail 34 = .ok (.iconst 1, 1) := by decide +kernel
theorem dX9_hail_35 : decode cX9_hail 35 = .ok (.if_icmp .le 5, 3) := by decide +kernel
theorem dX9_hail_38 : decode cX9_hail 38 = .ok (.iconst (-1), 1) := by decide +kernel
theorem dX9_hail_39 : decode cX9_hail 39 = .ok (.ireturn, 1) := by decide +kernel
theorem dX9_hail_40 : decode cX9_hail 40 = .ok (.aload_n 0, 1) := by decide +kernel
theorem dX9_hail_41 : decode cX9_hail 41 = .ok (.iload_n 1, 1) := by decide +kernel
theorem dX9_hail_42 : decode cX9_hail 42 = .ok (.iload_n 2, 1) := by decide +kernel
theorem dX9_hail_43 : decode cX9_hail 43 = .ok (.invokestatic 173, 3) := by decide +kernel
theorem dX9_hail_46 : decode cX9_hail 46 = .ok (.iload_n 3, 1) := by decide +kernel
theorem dX9_hail_47 : decode cX9_hail 47 = .ok (.iload 4, 2) := by decide +kernel
theorem dX9_hail_49 : decode cX9_hail 49 = .ok (.invokevirtual 214, 3) := by decide +kernel
theorem dX9_hail_52 : decode cX9_hail 52 = .ok (.istore 6, 2) := by decide +kernel
theorem dX9_hail_54 : decode cX9_hail 54 = .ok (.bipush 100, 2) := by decide +kernel
theorem dX9_hail_56 : decode cX9_hail 56 = .ok (.iload 6, 2) := by decide +kernel
theorem dX9_hail_58 : decode cX9_hail 58 = .ok (.invokestatic 217, 3) := by decide +kernel
theorem dX9_hail_61 : decode cX9_hail 61 = .ok (.istore 7, 2) := by decide +kernel
theorem dX9_hail_63 : decode cX9_hail 63 = .ok (.iload 5, 2) := by decide +kernel
theorem dX9_hail_65 : decode cX9_hail 65 = .ok (.ifCond .ne 8, 3) := by decide +kernel
theorem dX9_hail_68 : decode cX9_hail 68 = .ok (.iload 6, 2) := by decide +kernel
theorem dX9_hail_70 : decode cX9_hail 70 = .ok (.goto 5, 3) := by decide +kernel
theorem dX9_hail_73 : decode cX9_hail 73 = .ok (.bipush 100, 2) := by decide +kernel
theorem dX9_hail_75 : decode cX9_hail 75 = .ok (.iload 7, 2) := by decide +kernel
theorem dX9_hail_77 : decode cX9_hail 77 = .ok (.idiv, 1) := by decide +kernel
theorem dX9_hail_78 : decode cX9_hail 78 = .ok (.ireturn, 1) := by decide +kernel
theorem dX9_saw_0 : decode cX9_saw 0 = .ok (.iload_n 1, 1) := by decide +kernel
theorem dX9_saw_1 : decode cX9_saw 1 = .ok (.iload_n 2, 1) := by decide +kernel
theorem dX9_saw_2 : decode cX9_saw 2 = .ok (.invokestatic 166, 3) := by decide +kernel
theorem dX9_saw_5 : decode cX9_saw 5 = .ok (.ifCond .eq 18, 3) := by decide +kernel
theorem dX9_saw_8 : decode cX9_saw 8 = .ok (.iload_n 3, 1) := by decide +kernel
theorem dX9_saw_9 : decode cX9_saw 9 = .ok (.invokestatic 170, 3) := by decide +kernel
theorem dX9_saw_12 : decode cX9_saw 12 = .ok (.ifCond .eq 11, 3) := by decide +kernel
theorem dX9_saw_15 : decode cX9_saw 15 = .ok (.iload 4, 2) := by decide +kernel
theorem dX9_saw_17 : decode cX9_saw 17 = .ok (.invokestatic 179, 3) := by decide +kernel
theorem dX9_saw_20 : decode cX9_saw 20 = .ok (.ifCond .ne 5, 3) := by decide +kernel
theorem dX9_saw_23 : decode cX9_saw 23 = .ok (.iconst (-1), 1) := by decide +kernel
theorem dX9_saw_24 : decode cX9_saw 24 = .ok (.ireturn, 1) := by decide +kernel
theorem dX9_saw_25 : decode cX9_saw 25 = .ok (.aload_n 0, 1) := by decide +kernel
theorem dX9_saw_26 : decode cX9_saw 26 = .ok (.getfield 40, 3) := by decide +kernel
theorem dX9_saw_29 : decode cX9_saw 29 = .ok (.iload_n 1, 1) := by decide +kernel
theorem dX9_saw_30 : decode cX9_saw 30 = .ok (.iload_n 2, 1) := by decide +kernel
theorem dX9_saw_31 : decode cX9_saw 31 = .ok (.invokestatic 173, 3) := by decide +kernel
theorem dX9_saw_34 : decode cX9_saw 34 = .ok (.bipush 8, 2) := by decide +kernel
theorem dX9_saw_36 : decode cX9_saw 36 = .ok (.imul, 1) := by decide +kernel
theorem dX9_saw_37 : decode cX9_saw 37 = .ok (.iload_n 3, 1) := by decide +kernel
theorem dX9_saw_38 : decode cX9_saw 38 = .ok (.iadd, 1) := by decide +kernel
theorem dX9_saw_39 : decode cX9_saw 39 = .ok (.iload 4, 2) := by decide +kernel
theorem dX9_saw_41 : decode cX9_saw 41 = .ok (.invokevirtual 220, 3) := by decide +kernel
theorem dX9_saw_44 : decode cX9_saw 44 = .ok (.ifCond .eq 13, 3) := by decide +kernel
theorem dX9_saw_47 : decode cX9_saw 47 = .ok (.aload_n 0, 1) := by decide +kernel
theorem dX9_saw_48 : decode cX9_saw 48 = .ok (.getfield 40, 3) := by decide +kernel
theorem dX9_saw_51 : decode cX9_saw 51 = .ok (.getfield 84, 3) := by decide +kernel
theorem dX9_saw_54 : decode cX9_saw 54 = .ok (.goto 5, 3) := by decide +kernel
theorem dX9_saw_57 : decode cX9_saw 57 = .ok (.bipush (-3), 2) := by decide +kernel
theorem dX9_saw_59 : decode cX9_saw 59 = .ok (.ireturn, 1) := by decide +kernel
theorem dX9_forget_0 : decode cX9_forget 0 = .ok (.aload_n 0, 1) := by decide +kernel
theorem dX9_forget_1 : decode cX9_forget 1 = .ok (.getfield 40, 3) := by decide +kernel
theorem dX9_forget_4 : decode cX9_forget 4 = .ok (.getfield 84, 3) := by decide +kernel
theorem dX9_forget_7 : decode cX9_forget 7 = .ok (.istore_n 1, 1) := by decide +kernel
theorem dX9_forget_8 : decode cX9_forget 8 = .ok (.aload_n 0, 1) := by decide +kernel
theorem dX9_forget_9 : decode cX9_forget 9 = .ok (.getfield 40, 3) := by decide +kernel
theorem dX9_forget_12 : decode cX9_forget 12 = .ok (.iconst 0, 1) := by decide +kernel
theorem dX9_forget_13 : decode cX9_forget 13 = .ok (.putfield 84, 3) := by decide +kernel
theorem dX9_forget_16 : decode cX9_forget 16 = .ok (.iload_n 1, 1) := by decide +kernel
theorem dX9_forget_17 : decode cX9_forget 17 = .ok (.ireturn, 1) := by decide +kernel
theorem dX9_suspects_0 : decode cX9_suspects 0 = .ok (.aload_n 0, 1) := by decide +kernel
theorem dX9_suspects_1 : decode cX9_suspects 1 = .ok (.getfield 40, 3) := by decide +kernel
theorem dX9_suspects_4 : decode cX9_suspects 4 = .ok (.aload_n 0, 1) := by decide +kernel
theorem dX9_suspects_5 : decode cX9_suspects 5 = .ok (.getfield 19, 3) := by decide +kernel
theorem dX9_suspects_8 : decode cX9_suspects 8 = .ok (.invokevirtual 222, 3) := by decide +kernel
theorem dX9_suspects_11 : decode cX9_suspects 11 = .ok (.ireturn, 1) := by decide +kernel
theorem dX9_glasses_0 : decode cX9_glasses 0 = .ok (.aload_n 0, 1) := by decide +kernel
theorem dX9_glasses_1 : decode cX9_glasses 1 = .ok (.getfield 19, 3) := by decide +kernel
theorem dX9_glasses_4 : decode cX9_glasses 4 = .ok (.iload_n 1, 1) := by decide +kernel
theorem dX9_glasses_5 : decode cX9_glasses 5 = .ok (.iload_n 2, 1) := by decide +kernel
theorem dX9_glasses_6 : decode cX9_glasses 6 = .ok (.invokevirtual 87, 3) := by decide +kernel
theorem dX9_glasses_9 : decode cX9_glasses 9 = .ok (.istore_n 3, 1) := by decide +kernel
theorem dX9_glasses_10 : decode cX9_glasses 10 = .ok (.iload_n 3, 1) := by decide +kernel
theorem dX9_glasses_11 : decode cX9_glasses 11 = .ok (.iconst (-1), 1) := by decide +kernel
theorem dX9_glasses_12 : decode cX9_glasses 12 = .ok (.if_icmp .ne 7, 3) := by decide +kernel
theorem dX9_glasses_15 : decode cX9_glasses 15 = .ok (.iconst (-1), 1) := by decide +kernel
theorem dX9_glasses_16 : decode cX9_glasses 16 = .ok (.goto 15, 3) := by decide +kernel
theorem dX9_glasses_19 : decode cX9_glasses 19 = .ok (.aload_n 0, 1) := by decide +kernel
theorem dX9_glasses_20 : decode cX9_glasses 20 = .ok (.getfield 40, 3) := by decide +kernel
theorem dX9_glasses_23 : decode cX9_glasses 23 = .ok (.aload_n 0, 1) := by decide +kernel
theorem dX9_glasses_24 : decode cX9_glasses 24 = .ok (.getfield 19, 3) := by decide +kernel
theorem dX9_glasses_27 : decode cX9_glasses 27 = .ok (.iload_n 3, 1) := by decide +kernel
theorem dX9_glasses_28 : decode cX9_glasses 28 = .ok (.invokevirtual 225, 3) := by decide +kernel
theorem dX9_glasses_31 : decode cX9_glasses 31 = .ok (.ireturn, 1) := by decide +kernel
theorem dX9_look_0 : decode cX9_look 0 = .ok (.aload_n 0, 1) := by decide +kernel
theorem dX9_look_1 : decode cX9_look 1 = .ok (.getfield 40, 3) := by decide +kernel
theorem dX9_look_4 : decode cX9_look 4 = .ok (.aload_n 0, 1) := by decide +kernel
theorem dX9_look_5 : decode cX9_look 5 = .ok (.getfield 19, 3) := by decide +kernel
theorem dX9_look_8 : decode cX9_look 8 = .ok (.aload_n 0, 1) := by decide +kernel
theorem dX9_look_9 : decode cX9_look 9 = .ok (.getfield 40, 3) := by decide +kernel
theorem dX9_look_12 : decode cX9_look 12 = .ok (.aload_n 0, 1) := by decide +kernel
theorem dX9_look_13 : decode cX9_look 13 = .ok (.getfield 19, 3) := by decide +kernel
theorem dX9_look_16 : decode cX9_look 16 = .ok (.invokevirtual 222, 3) := by decide +kernel
theorem dX9_look_19 : decode cX9_look 19 = .ok (.invokevirtual 229, 3) := by decide +kernel
theorem dX9_look_22 : decode cX9_look 22 = .ok (.ireturn, 1) := by decide +kernel
theorem dX9_mark_0 : decode cX9_mark 0 = .ok (.aload_n 0, 1) := by decide +kernel
theorem dX9_mark_1 : decode cX9_mark 1 = .ok (.getfield 19, 3) := by decide +kernel
theorem dX9_mark_4 : decode cX9_mark 4 = .ok (.iload_n 2, 1) := by decide +kernel
theorem dX9_mark_5 : decode cX9_mark 5 = .ok (.iload_n 3, 1) := by decide +kernel
theorem dX9_mark_6 : decode cX9_mark 6 = .ok (.invokevirtual 87, 3) := by decide +kernel
theorem dX9_mark_9 : decode cX9_mark 9 = .ok (.istore 4, 2) := by decide +kernel
theorem dX9_mark_11 : decode cX9_mark 11 = .ok (.iload_n 1, 1) := by decide +kernel
theorem dX9_mark_12 : decode cX9_mark 12 = .ok (.ifCond .lt 14, 3) := by decide +kernel
theorem dX9_mark_15 : decode cX9_mark 15 = .ok (.iload_n 1, 1) := by decide +kernel
theorem dX9_mark_16 : decode cX9_mark 16 = .ok (.iconst 5, 1) := by decide +kernel
theorem dX9_mark_17 : decode cX9_mark 17 = .ok (.if_icmp .gt 9, 3) := by decide +kernel
theorem dX9_mark_20 : decode cX9_mark 20 = .ok (.iload 4, 2) := by decide +kernel
theorem dX9_mark_22 : decode cX9_mark 22 = .ok (.iconst (-1), 1) := by decide +kernel
theorem dX9_mark_23 : decode cX9_mark 23 = .ok (.if_icmp .ne 6, 3) := by decide +kernel
theorem dX9_mark_26 : decode cX9_mark 26 = .ok (.ldc 232, 2) := by decide +kernel
theorem dX9_mark_28 : decode cX9_mark 28 = .ok (.ireturn, 1) := by decide +kernel
theorem dX9_mark_29 : decode cX9_mark 29 = .ok (.iload_n 1, 1) := by decide +kernel
theorem dX9_mark_30 : decode cX9_mark 30 = .ok (.tableswitch 69 0 4 #[34, 41, 48, 55, 62], 34) := by decide +kernel
theorem dX9_mark_64 : decode cX9_mark 64 = .ok (.aload_n 0, 1) := by decide +kernel
theorem dX9_mark_65 : decode cX9_mark 65 = .ok (.iload 4, 2) := by decide +kernel
theorem dX9_mark_67 : decode cX9_mark 67 = .ok (.invokevirtual 233, 3) := by decide +kernel
theorem dX9_mark_70 : decode cX9_mark 70 = .ok (.ireturn, 1) := by decide +kernel
theorem dX9_mark_71 : decode cX9_mark 71 = .ok (.aload_n 0, 1) := by decide +kernel
theorem dX9_mark_72 : decode cX9_mark 72 = .ok (.iload 4, 2) := by decide +kernel
theorem dX9_mark_74 : decode cX9_mark 74 = .ok (.invokevirtual 236, 3) := by decide +kernel
theorem dX9_mark_77 : decode cX9_mark 77 = .ok (.ireturn, 1) := by decide +kernel
theorem dX9_mark_78 : decode cX9_mark 78 = .ok (.aload_n 0, 1) := by decide +kernel
theorem dX9_mark_79 : decode cX9_mark 79 = .ok (.iload 4, 2) := by decide +kernel
theorem dX9_mark_81 : decode cX9_mark 81 = .ok (.invokevirtual 239, 3) := by decide +kernel
theorem dX9_mark_84 : decode cX9_mark 84 = .ok (.ireturn, 1) := by decide +kernel
theorem dX9_mark_85 : decode cX9_mark 85 = .ok (.aload_n 0, 1) := by decide +kernel
theorem dX9_mark_86 : decode cX9_mark 86 = .ok (.iload 4, 2) := by decide +kernel
theorem dX9_mark_88 : decode cX9_mark 88 = .ok (.invokevirtual 242, 3) := by decide +kernel
theorem dX9_mark_91 : decode cX9_mark 91 = .ok (.ireturn, 1) := by decide +kernel
theorem dX9_mark_92 : decode cX9_mark 92 = .ok (.aload_n 0, 1) := by decide +kernel
theorem dX9_mark_93 : decode cX9_mark 93 = .ok (.iload 4, 2) := by decide +kernel
theorem dX9_mark_95 : decode cX9_mark 95 = .ok (.invokevirtual 245, 3) := by decide +kernel
theorem dX9_mark_98 : decode cX9_mark 98 = .ok (.ireturn, 1) := by decide +kernel
theorem dX9_mark_99 : decode cX9_mark 99 = .ok (.aload_n 0, 1) := by decide +kernel
theorem dX9_mark_100 : decode cX9_mark 100 = .ok (.iload 4, 2) := by decide +kernel
theorem dX9_mark_102 : decode cX9_mark 102 = .ok (.invokevirtual 248, 3) := by decide +kernel
theorem dX9_mark_105 : decode cX9_mark 105 = .ok (.ireturn, 1) := by decide +kernel
theorem dX9_keep_0 : decode cX9_keep 0 = .ok (.iload_n 1, 1) := by decide +kernel
theorem dX9_keep_1 : decode cX9_keep 1 = .ok (.ifCond .lt 8, 3) := by decide +kernel
theorem dX9_keep_4 : decode cX9_keep 4 = .ok (.iload_n 1, 1) := by decide +kernel
theorem dX9_keep_5 : decode cX9_keep 5 = .ok (.iconst 2, 1) := by decide +kernel
theorem dX9_keep_6 : decode cX9_keep 6 = .ok (.if_icmp .lt 5, 3) := by decide +kernel
theorem dX9_keep_9 : decode cX9_keep 9 = .ok (.iconst (-1), 1) := by decide +kernel
theorem dX9_keep_10 : decode cX9_keep 10 = .ok (.ireturn, 1) := by decide +kernel
theorem dX9_keep_11 : decode cX9_keep 11 = .ok (.aload_n 0, 1) := by decide +kernel
theorem dX9_keep_12 : decode cX9_keep 12 = .ok (.getfield 46, 3) := by decide +kernel
theorem dX9_keep_15 : decode cX9_keep 15 = .ok (.iload_n 1, 1) := by decide +kernel
theorem dX9_keep_16 : decode cX9_keep 16 = .ok (.aaload, 1) := by decide +kernel
theorem dX9_keep_17 : decode cX9_keep 17 = .ok (.aload_n 0, 1) := by decide +kernel
theorem dX9_keep_18 : decode cX9_keep 18 = .ok (.getfield 19, 3) := by decide +kernel
theorem dX9_keep_21 : decode cX9_keep 21 = .ok (.getfield 58, 3) := by decide +kernel
theorem dX9_keep_24 : decode cX9_keep 24 = .ok (.invokevirtual 251, 3) := by decide +kernel
theorem dX9_keep_27 : decode cX9_keep 27 = .ok (.aload_n 0, 1) := by decide +kernel
theorem dX9_keep_28 : decode cX9_keep 28 = .ok (.dup, 1) := by decide +kernel
theorem dX9_keep_29 : decode cX9_keep 29 = .ok (.getfield 81, 3) := by decide +kernel
theorem dX9_keep_32 : decode cX9_keep 32 = .ok (.iconst 1, 1) := by decide +kernel
theorem dX9_keep_33 : decode cX9_keep 33 = .ok (.iload_n 1, 1) := by decide +kernel
theorem dX9_keep_34 : decode cX9_keep 34 = .ok (.ishl, 1) := by decide +kernel
theorem dX9_keep_35 : decode cX9_keep 35 = .ok (.ior, 1) := by decide +kernel
theorem dX9_keep_36 : decode cX9_keep 36 = .ok (.putfield 81, 3) := by decide +kernel
theorem dX9_keep_39 : decode cX9_keep 39 = .ok (.aload_n 0, 1) := by decide +kernel
theorem dX9_keep_40 : decode cX9_keep 40 = .ok (.getfield 19, 3) := by decide +kernel
theorem dX9_keep_43 : decode cX9_keep 43 = .ok (.getfield 58, 3) := by decide +kernel
theorem dX9_keep_46 : decode cX9_keep 46 = .ok (.getfield 98, 3) := by decide +kernel
theorem dX9_keep_49 : decode cX9_keep 49 = .ok (.getfield 132, 3) := by decide +kernel
theorem dX9_keep_52 : decode cX9_keep 52 = .ok (.invokestatic 127, 3) := by decide +kernel
theorem dX9_keep_55 : decode cX9_keep 55 = .ok (.ireturn, 1) := by decide +kernel
theorem dX9_back_0 : decode cX9_back 0 = .ok (.iload_n 1, 1) := by decide +kernel
theorem dX9_back_1 : decode cX9_back 1 = .ok (.ifCond .lt 8, 3) := by decide +kernel
theorem dX9_back_4 : decode cX9_back 4 = .ok (.iload_n 1, 1) := by decide +kernel
theorem dX9_back_5 : decode cX9_back 5 = .ok (.iconst 2, 1) := by decide +kernel
theorem dX9_back_6 : decode cX9_back 6 = .ok (.if_icmp .lt 5, 3) := by decide +kernel
theorem dX9_back_9 : decode cX9_back 9 = .ok (.iconst (-1), 1) := by decide +kernel
theorem dX9_back_10 : decode cX9_back 10 = .ok (.ireturn, 1) := by decide +kernel
theorem dX9_back_11 : decode cX9_back 11 = .ok (.aload_n 0, 1) := by decide +kernel
theorem dX9_back_12 : decode cX9_back 12 = .ok (.getfield 81, 3) := by decide +kernel
theorem dX9_back_15 : decode cX9_back 15 = .ok (.iload_n 1, 1) := by decide +kernel
theorem dX9_back_16 : decode cX9_back 16 = .ok (.ishr, 1) := by decide +kernel
theorem dX9_back_17 : decode cX9_back 17 = .ok (.iconst 1, 1) := by decide +kernel
theorem dX9_back_18 : decode cX9_back 18 = .ok (.iand, 1) := by decide +kernel
theorem dX9_back_19 : decode cX9_back 19 = .ok (.ifCond .ne 6, 3) := by decide +kernel
theorem dX9_back_22 : decode cX9_back 22 = .ok (.bipush (-2), 2) := by decide +kernel
theorem dX9_back_24 : decode cX9_back 24 = .ok (.ireturn, 1) := by decide +kernel
theorem dX9_back_25 : decode cX9_back 25 = .ok (.aload_n 0, 1) := by decide +kernel
theorem dX9_back_26 : decode cX9_back 26 = .ok (.getfield 19, 3) := by decide +kernel
theorem dX9_back_29 : decode cX9_back 29 = .ok (.getfield 58, 3) := by decide +kernel
theorem dX9_back_32 : decode cX9_back 32 = .ok (.aload_n 0, 1) := by decide +kernel
theorem dX9_back_33 : decode cX9_back 33 = .ok (.getfield 46, 3) := by decide +kernel
theorem dX9_back_36 : decode cX9_back 36 = .ok (.iload_n 1, 1) := by decide +kernel
theorem dX9_back_37 : decode cX9_back 37 = .ok (.aaload, 1) := by decide +kernel
theorem dX9_back_38 : decode cX9_back 38 = .ok (.invokevirtual 251, 3) := by decide +kernel
theorem dX9_back_41 : decode cX9_back 41 = .ok (.aload_n 0, 1) := by decide +kernel
theorem dX9_back_42 : decode cX9_back 42 = .ok (.getfield 19, 3) := by decide +kernel
theorem dX9_back_45 : decode cX9_back 45 = .ok (.getfield 58, 3) := by decide +kernel
theorem dX9_back_48 : decode cX9_back 48 = .ok (.getfield 98, 3) := by decide +kernel
theorem dX9_back_51 : decode cX9_back 51 = .ok (.getfield 132, 3) := by decide +kernel
theorem dX9_back_54 : decode cX9_back 54 = .ok (.invokestatic 127, 3) := by decide +kernel
theorem dX9_back_57 : decode cX9_back 57 = .ok (.ireturn, 1) := by decide +kernel
theorem dX9_count_0 : decode cX9_count 0 = .ok (.iload_n 1, 1) := by decide +kernel
theorem dX9_count_1 : decode cX9_count 1 = .ok (.tableswitch 99 0 5 #[39, 50, 61, 72, 80, 91], 39) := by decide +kernel
theorem dX9_count_40 : decode cX9_count 40 = .ok (.aload_n 0, 1) := by decide +kernel
theorem dX9_count_41 : decode cX9_count 41 = .ok (.getfield 19, 3) := by decide +kernel
theorem dX9_count_44 : decode cX9_count 44 = .ok (.getfield 62, 3) := by decide +kernel
theorem dX9_count_47 : decode cX9_count 47 = .ok (.getfield 255, 3) := by decide +kernel
theorem dX9_count_50 : decode cX9_count 50 = .ok (.ireturn, 1) := by decide +kernel
theorem dX9_count_51 : decode cX9_count 51 = .ok (.aload_n 0, 1) := by decide +kernel
theorem dX9_count_52 : decode cX9_count 52 = .ok (.getfield 19, 3) := by decide +kernel
theorem dX9_count_55 : decode cX9_count 55 = .ok (.getfield 62, 3) := by decide +kernel
theorem dX9_count_58 : decode cX9_count 58 = .ok (.getfield 258, 3) := by decide +kernel
theorem dX9_count_61 : decode cX9_count 61 = .ok (.ireturn, 1) := by decide +kernel
theorem dX9_count_62 : decode cX9_count 62 = .ok (.aload_n 0, 1) := by decide +kernel
theorem dX9_count_63 : decode cX9_count 63 = .ok (.getfield 19, 3) := by decide +kernel
theorem dX9_count_66 : decode cX9_count 66 = .ok (.getfield 62, 3) := by decide +kernel
theorem dX9_count_69 : decode cX9_count 69 = .ok (.getfield 261, 3) := by decide +kernel
theorem dX9_count_72 : decode cX9_count 72 = .ok (.ireturn, 1) := by decide +kernel
theorem dX9_count_73 : decode cX9_count 73 = .ok (.aload_n 0, 1) := by decide +kernel
theorem dX9_count_74 : decode cX9_count 74 = .ok (.getfield 40, 3) := by decide +kernel
theorem dX9_count_77 : decode cX9_count 77 = .ok (.getfield 84, 3) := by decide +kernel
theorem dX9_count_80 : decode cX9_count 80 = .ok (.ireturn, 1) := by decide +kernel
theorem dX9_count_81 : decode cX9_count 81 = .ok (.aload_n 0, 1) := by decide +kernel
theorem dX9_count_82 : decode cX9_count 82 = .ok (.getfield 19, 3) := by decide +kernel
theorem dX9_count_85 : decode cX9_count 85 = .ok (.getfield 58, 3) := by decide +kernel
theorem dX9_count_88 : decode cX9_count 88 = .ok (.getfield 145, 3) := by decide +kernel
theorem dX9_count_91 : decode cX9_count 91 = .ok (.ireturn, 1) := by decide +kernel
theorem dX9_count_92 : decode cX9_count 92 = .ok (.aload_n 0, 1) := by decide +kernel
theorem dX9_count_93 : decode cX9_count 93 = .ok (.getfield 12, 3) := by decide +kernel
theorem dX9_count_96 : decode cX9_count 96 = .ok (.getfield 73, 3) := by decide +kernel
theorem dX9_count_99 : decode cX9_count 99 = .ok (.ireturn, 1) := by decide +kernel
theorem dX9_count_100 : decode cX9_count 100 = .ok (.iconst (-1), 1) := by decide +kernel
theorem dX9_count_101 : decode cX9_count 101 = .ok (.ireturn, 1) := by decide +kernel
theorem dX9_trace_0 : decode cX9_trace 0 = .ok (.aload_n 0, 1) := by decide +kernel
theorem dX9_trace_1 : decode cX9_trace 1 = .ok (.getfield 262, 3) := by decide +kernel
theorem dX9_trace_4 : decode cX9_trace 4 = .ok (.lreturn, 1) := by decide +kernel
theorem dX9_isSheet_0 : decode cX9_isSheet 0 = .ok (.iload_n 1, 1) := by decide +kernel
theorem dX9_isSheet_1 : decode cX9_isSheet 1 = .ok (.ifCond .lt 21, 3) := by decide +kernel
theorem dX9_isSheet_4 : decode cX9_isSheet 4 = .ok (.iload_n 1, 1) := by decide +kernel
theorem dX9_isSheet_5 : decode cX9_isSheet 5 = .ok (.aload_n 0, 1) := by decide +kernel
theorem dX9_isSheet_6 : decode cX9_isSheet 6 = .ok (.getfield 19, 3) := by decide +kernel
theorem dX9_isSheet_9 : decode cX9_isSheet 9 = .ok (.getfield 62, 3) := by decide +kernel
theorem dX9_isSheet_12 : decode cX9_isSheet 12 = .ok (.getfield 261, 3) := by decide +kernel
theorem dX9_isSheet_15 : decode cX9_isSheet 15 = .ok (.if_icmp .ge 7, 3) := by decide +kernel
theorem dX9_isSheet_18 : decode cX9_isSheet 18 = .ok (.iconst 1, 1) := by decide +kernel
theorem dX9_isSheet_19 : decode cX9_isSheet 19 = .ok (.goto 4, 3) := by decide +kernel
theorem dX9_isSheet_22 : decode cX9_isSheet 22 = .ok (.iconst 0, 1) := by decide +kernel
theorem dX9_isSheet_23 : decode cX9_isSheet 23 = .ok (.ireturn, 1) := by decide +kernel
theorem dX9_isTile_0 : decode cX9_isTile 0 = .ok (.iload_n 0, 1) := by decide +kernel
theorem dX9_isTile_1 : decode cX9_isTile 1 = .ok (.ifCond .lt 23, 3) := by decide +kernel
theorem dX9_isTile_4 : decode cX9_isTile 4 = .ok (.iload_n 0, 1) := by decide +kernel
theorem dX9_isTile_5 : decode cX9_isTile 5 = .ok (.bipush 12, 2) := by decide +kernel
theorem dX9_isTile_7 : decode cX9_isTile 7 = .ok (.if_icmp .ge 17, 3) := by decide +kernel
theorem dX9_isTile_10 : decode cX9_isTile 10 = .ok (.iload_n 1, 1) := by decide +kernel
theorem dX9_isTile_11 : decode cX9_isTile 11 = .ok (.ifCond .lt 13, 3) := by decide +kernel
theorem dX9_isTile_14 : decode cX9_isTile 14 = .ok (.iload_n 1, 1) := by decide +kernel
theorem dX9_isTile_15 : decode cX9_isTile 15 = .ok (.bipush 7, 2) := by decide +kernel
theorem dX9_isTile_17 : decode cX9_isTile 17 = .ok (.if_icmp .ge 7, 3) := by decide +kernel
theorem dX9_isTile_20 : decode cX9_isTile 20 = .ok (.iconst 1, 1) := by decide +kernel
theorem dX9_isTile_21 : decode cX9_isTile 21 = .ok (.goto 4, 3) := by decide +kernel
theorem dX9_isTile_24 : decode cX9_isTile 24 = .ok (.iconst 0, 1) := by decide +kernel
theorem dX9_isTile_25 : decode cX9_isTile 25 = .ok (.ireturn, 1) := by decide +kernel
theorem dX9_isHour_0 : decode cX9_isHour 0 = .ok (.iload_n 0, 1) := by decide +kernel
theorem dX9_isHour_1 : decode cX9_isHour 1 = .ok (.ifCond .lt 13, 3) := by decide +kernel
theorem dX9_isHour_4 : decode cX9_isHour 4 = .ok (.iload_n 0, 1) := by decide +kernel
theorem dX9_isHour_5 : decode cX9_isHour 5 = .ok (.bipush 8, 2) := by decide +kernel
theorem dX9_isHour_7 : decode cX9_isHour 7 = .ok (.if_icmp .ge 7, 3) := by decide +kernel
theorem dX9_isHour_10 : decode cX9_isHour 10 = .ok (.iconst 1, 1) := by decide +kernel
theorem dX9_isHour_11 : decode cX9_isHour 11 = .ok (.goto 4, 3) := by decide +kernel
theorem dX9_isHour_14 : decode cX9_isHour 14 = .ok (.iconst 0, 1) := by decide +kernel
theorem dX9_isHour_15 : decode cX9_isHour 15 = .ok (.ireturn, 1) := by decide +kernel
theorem dX9_isColour_0 : decode cX9_isColour 0 = .ok (.iload_n 0, 1) := by decide +kernel
theorem dX9_isColour_1 : decode cX9_isColour 1 = .ok (.ifCond .lt 13, 3) := by decide +kernel
theorem dX9_isColour_4 : decode cX9_isColour 4 = .ok (.iload_n 0, 1) := by decide +kernel
theorem dX9_isColour_5 : decode cX9_isColour 5 = .ok (.bipush 8, 2) := by decide +kernel
theorem dX9_isColour_7 : decode cX9_isColour 7 = .ok (.if_icmp .ge 7, 3) := by decide +kernel
theorem dX9_isColour_10 : decode cX9_isColour 10 = .ok (.iconst 1, 1) := by decide +kernel
theorem dX9_isColour_11 : decode cX9_isColour 11 = .ok (.goto 4, 3) := by decide +kernel
theorem dX9_isColour_14 : decode cX9_isColour 14 = .ok (.iconst 0, 1) := by decide +kernel
theorem dX9_isColour_15 : decode cX9_isColour 15 = .ok (.ireturn, 1) := by decide +kernel
theorem dX9_numberOf_0 : decode cX9_numberOf 0 = .ok (.bipush 7, 2) := by decide +kernel
theorem dX9_numberOf_2 : decode cX9_numberOf 2 = .ok (.iload_n 0, 1) := by decide +kernel
theorem dX9_numberOf_3 : decode cX9_numberOf 3 = .ok (.imul, 1) := by decide +kernel
theorem dX9_numberOf_4 : decode cX9_numberOf 4 = .ok (.iload_n 1, 1) := by decide +kernel
theorem dX9_numberOf_5 : decode cX9_numberOf 5 = .ok (.iadd, 1) := by decide +kernel
theorem dX9_numberOf_6 : decode cX9_numberOf 6 = .ok (.ireturn, 1) := by decide +kernel
theorem dX9_asPane_0 : decode cX9_asPane 0 = .ok (.aload_n 0, 1) := by decide +kernel
theorem dX9_asPane_1 : decode cX9_asPane 1 = .ok (.dup, 1) := by decide +kernel
theorem dX9_asPane_2 : decode cX9_asPane 2 = .ok (.getfield 262, 3) := by decide +kernel
theorem dX9_asPane_5 : decode cX9_asPane 5 = .ok (.lconst 1, 1) := by decide +kernel
theorem dX9_asPane_6 : decode cX9_asPane 6 = .ok (.ladd, 1) := by decide +kernel
theorem dX9_asPane_7 : decode cX9_asPane 7 = .ok (.putfield 262, 3) := by decide +kernel
theorem dX9_asPane_10 : decode cX9_asPane 10 = .ok (.aload_n 0, 1) := by decide +kernel
theorem dX9_asPane_11 : decode cX9_asPane 11 = .ok (.getfield 19, 3) := by decide +kernel
theorem dX9_asPane_14 : decode cX9_asPane 14 = .ok (.iload_n 1, 1) := by decide +kernel
theorem dX9_asPane_15 : decode cX9_asPane 15 = .ok (.invokevirtual 107, 3) := by decide +kernel
theorem dX9_asPane_18 : decode cX9_asPane 18 = .ok (.ireturn, 1) := by decide +kernel
theorem dX9_asSaint_0 : decode cX9_asSaint 0 = .ok (.aload_n 0, 1) := by decide +kernel
theorem dX9_asSaint_1 : decode cX9_asSaint 1 = .ok (.dup, 1) := by decide +kernel
theorem dX9_asSaint_2 : decode cX9_asSaint 2 = .ok (.getfield 262, 3) := by decide +kernel
theorem dX9_asSaint_5 : decode cX9_asSaint 5 = .ok (.ldc2_w 266, 3) := by decide +kernel
theorem dX9_asSaint_8 : decode cX9_asSaint 8 = .ok (.ladd, 1) := by decide +kernel
theorem dX9_asSaint_9 : decode cX9_asSaint 9 = .ok (.putfield 262, 3) := by decide +kernel
theorem dX9_asSaint_12 : decode cX9_asSaint 12 = .ok (.aload_n 0, 1) := by decide +kernel
theorem dX9_asSaint_13 : decode cX9_asSaint 13 = .ok (.iload_n 1, 1) := by decide +kernel
theorem dX9_asSaint_14 : decode cX9_asSaint 14 = .ok (.invokevirtual 233, 3) := by decide +kernel
theorem dX9_asSaint_17 : decode cX9_asSaint 17 = .ok (.aload_n 0, 1) := by decide +kernel
theorem dX9_asSaint_18 : decode cX9_asSaint 18 = .ok (.getfield 19, 3) := by decide +kernel
theorem dX9_asSaint_21 : decode cX9_asSaint 21 = .ok (.getfield 58, 3) := by decide +kernel
theorem dX9_asSaint_24 : decode cX9_asSaint 24 = .ok (.getfield 98, 3) := by decide +kernel
theorem dX9_asSaint_27 : decode cX9_asSaint 27 = .ok (.getfield 102, 3) := by decide +kernel
theorem dX9_asSaint_30 : decode cX9_asSaint 30 = .ok (.iload_n 1, 1) := by decide +kernel
theorem dX9_asSaint_31 : decode cX9_asSaint 31 = .ok (.iaload, 1) := by decide +kernel
theorem dX9_asSaint_32 : decode cX9_asSaint 32 = .ok (.invokestatic 127, 3) := by decide +kernel
theorem dX9_asSaint_35 : decode cX9_asSaint 35 = .ok (.iadd, 1) := by decide +kernel
theorem dX9_asSaint_36 : decode cX9_asSaint 36 = .ok (.ireturn, 1) := by decide +kernel
theorem dX9_asDevil_0 : decode cX9_asDevil 0 = .ok (.aload_n 0, 1) := by decide +kernel
theorem dX9_asDevil_1 : decode cX9_asDevil 1 = .ok (.dup, 1) := by decide +kernel
theorem dX9_asDevil_2 : decode cX9_asDevil 2 = .ok (.getfield 262, 3) := by decide +kernel
theorem dX9_asDevil_5 : decode cX9_asDevil 5 = .ok (.ldc2_w 268, 3) := by decide +kernel
theorem dX9_asDevil_8 : decode cX9_asDevil 8 = .ok (.ladd, 1) := by decide +kernel
theorem dX9_asDevil_9 : decode cX9_asDevil 9 = .ok (.putfield 262, 3) := by decide +kernel
theorem dX9_asDevil_12 : decode cX9_asDevil 12 = .ok (.aload_n 0, 1) := by decide +kernel
theorem dX9_asDevil_13 : decode cX9_asDevil 13 = .ok (.iload_n 1, 1) := by decide +kernel
theorem dX9_asDevil_14 : decode cX9_asDevil 14 = .ok (.invokevirtual 233, 3) := by decide +kernel
theorem dX9_asDevil_17 : decode cX9_asDevil 17 = .ok (.iload_n 1, 1) := by decide +kernel
theorem dX9_asDevil_18 : decode cX9_asDevil 18 = .ok (.iconst 4, 1) := by decide +kernel
theorem dX9_asDevil_19 : decode cX9_asDevil 19 = .ok (.irem, 1) := by decide +kernel
theorem dX9_asDevil_20 : decode cX9_asDevil 20 = .ok (.isub, 1) := by decide +kernel
theorem dX9_asDevil_21 : decode cX9_asDevil 21 = .ok (.ireturn, 1) := by decide +kernel
theorem dX9_asHalo_0 : decode cX9_asHalo 0 = .ok (.aload_n 0, 1) := by decide +kernel
theorem dX9_asHalo_1 : decode cX9_asHalo 1 = .ok (.dup, 1) := by decide +kernel
theorem dX9_asHalo_2 : decode cX9_asHalo 2 = .ok (.getfield 262, 3) := by decide +kernel
theorem dX9_asHalo_5 : decode cX9_asHalo 5 = .ok (.ldc2_w 270, 3) := by decide +kernel
theorem dX9_asHalo_8 : decode cX9_asHalo 8 = .ok (.ladd, 1) := by decide +kernel
theorem dX9_asHalo_9 : decode cX9_asHalo 9 = .ok (.putfield 262, 3) := by decide +kernel
theorem dX9_asHalo_12 : decode cX9_asHalo 12 = .ok (.aload_n 0, 1) := by decide +kernel
theorem dX9_asHalo_13 : decode cX9_asHalo 13 = .ok (.iload_n 1, 1) := by decide +kernel
theorem dX9_asHalo_14 : decode cX9_asHalo 14 = .ok (.invokevirtual 236, 3) := by decide +kernel
theorem dX9_asHalo_17 : decode cX9_asHalo 17 = .ok (.iconst 2, 1) := by decide +kernel
theorem dX9_asHalo_18 : decode cX9_asHalo 18 = .ok (.imul, 1) := by decide +kernel
theorem dX9_asHalo_19 : decode cX9_asHalo 19 = .ok (.ireturn, 1) := by decide +kernel
theorem dX9_asTail_0 : decode cX9_asTail 0 = .ok (.aload_n 0, 1) := by decide +kernel
theorem dX9_asTail_1 : decode cX9_asTail 1 = .ok (.dup, 1) := by decide +kernel
theorem dX9_asTail_2 : decode cX9_asTail 2 = .ok (.getfield 262, 3) := by decide +kernel
theorem dX9_asTail_5 : decode cX9_asTail 5 = .ok (.ldc2_w 272, 3) := by decide +kernel
theorem dX9_asTail_8 : decode cX9_asTail 8 = .ok (.ladd, 1) := by decide +kernel
theorem dX9_asTail_9 : decode cX9_asTail 9 = .ok (.putfield 262, 3) := by decide +kernel
theorem dX9_asTail_12 : decode cX9_asTail 12 = .ok (.aload_n 0, 1) := by decide +kernel
theorem dX9_asTail_13 : decode cX9_asTail 13 = .ok (.iload_n 1, 1) := by decide +kernel
theorem dX9_asTail_14 : decode cX9_asTail 14 = .ok (.invokevirtual 239, 3) := by decide +kernel
theorem dX9_asTail_17 : decode cX9_asTail 17 = .ok (.iload_n 1, 1) := by decide +kernel
theorem dX9_asTail_18 : decode cX9_asTail 18 = .ok (.iadd, 1) := by decide +kernel
theorem dX9_asTail_19 : decode cX9_asTail 19 = .ok (.ireturn, 1) := by decide +kernel
theorem dX9_asLead_0 : decode cX9_asLead 0 = .ok (.aload_n 0, 1) := by decide +kernel
theorem dX9_asLead_1 : decode cX9_asLead 1 = .ok (.dup, 1) := by decide +kernel
theorem dX9_asLead_2 : decode cX9_asLead 2 = .ok (.getfield 262, 3) := by decide +kernel
theorem dX9_asLead_5 : decode cX9_asLead 5 = .ok (.ldc2_w 274, 3) := by decide +kernel
theorem dX9_asLead_8 : decode cX9_asLead 8 = .ok (.ladd, 1) := by decide +kernel
theorem dX9_asLead_9 : decode cX9_asLead 9 = .ok (.putfield 262, 3) := by decide +kernel
theorem dX9_asLead_12 : decode cX9_asLead 12 = .ok (.aload_n 0, 1) := by decide +kernel
theorem dX9_asLead_13 : decode cX9_asLead 13 = .ok (.iload_n 1, 1) := by decide +kernel
theorem dX9_asLead_14 : decode cX9_asLead 14 = .ok (.invokevirtual 233, 3) := by decide +kernel
theorem dX9_asLead_17 : decode cX9_asLead 17 = .ok (.aload_n 0, 1) := by decide +kernel
theorem dX9_asLead_18 : decode cX9_asLead 18 = .ok (.getfield 19, 3) := by decide +kernel
theorem dX9_asLead_21 : decode cX9_asLead 21 = .ok (.getfield 58, 3) := by decide +kernel
theorem dX9_asLead_24 : decode cX9_asLead 24 = .ok (.getfield 98, 3) := by decide +kernel
theorem dX9_asLead_27 : decode cX9_asLead 27 = .ok (.getfield 135, 3) := by decide +kernel
theorem dX9_asLead_30 : decode cX9_asLead 30 = .ok (.iadd, 1) := by decide +kernel
theorem dX9_asLead_31 : decode cX9_asLead 31 = .ok (.ireturn, 1) := by decide +kernel
theorem dX9_clearOfHundred_0 : decode cX9_clearOfHundred 0 = .ok (.aload_n 0, 1) := by decide +kernel
theorem dX9_clearOfHundred_1 : decode cX9_clearOfHundred 1 = .ok (.getfield 19, 3) := by decide +kernel
theorem dX9_clearOfHundred_4 : decode cX9_clearOfHundred 4 = .ok (.iload_n 1, 1) := by decide +kernel
theorem dX9_clearOfHundred_5 : decode cX9_clearOfHundred 5 = .ok (.iload_n 2, 1) := by decide +kernel
theorem dX9_clearOfHundred_6 : decode cX9_clearOfHundred 6 = .ok (.invokevirtual 176, 3) := by decide +kernel
theorem dX9_clearOfHundred_9 : decode cX9_clearOfHundred 9 = .ok (.bipush 7, 2) := by decide +kernel
theorem dX9_clearOfHundred_11 : decode cX9_clearOfHundred 11 = .ok (.if_icmp .ne 6, 3) := by decide +kernel
theorem dX9_clearOfHundred_14 : decode cX9_clearOfHundred 14 = .ok (.bipush 100, 2) := by decide +kernel
theorem dX9_clearOfHundred_16 : decode cX9_clearOfHundred 16 = .ok (.ireturn, 1) := by decide +kernel
theorem dX9_clearOfHundred_17 : decode cX9_clearOfHundred 17 = .ok (.bipush 100, 2) := by decide +kernel
theorem dX9_clearOfHundred_19 : decode cX9_clearOfHundred 19 = .ok (.istore 4, 2) := by decide +kernel
theorem dX9_clearOfHundred_21 : decode cX9_clearOfHundred 21 = .ok (.aload_n 0, 1) := by decide +kernel
theorem dX9_clearOfHundred_22 : decode cX9_clearOfHundred 22 = .ok (.getfield 19, 3) := by decide +kernel
theorem dX9_clearOfHundred_25 : decode cX9_clearOfHundred 25 = .ok (.iload_n 1, 1) := by decide +kernel
theorem dX9_clearOfHundred_26 : decode cX9_clearOfHundred 26 = .ok (.iload_n 2, 1) := by decide +kernel
theorem dX9_clearOfHundred_27 : decode cX9_clearOfHundred 27 = .ok (.invokevirtual 276, 3) := by decide +kernel
theorem dX9_clearOfHundred_30 : decode cX9_clearOfHundred 30 = .ok (.iconst (-1), 1) := by decide +kernel
theorem dX9_clearOfHundred_31 : decode cX9_clearOfHundred 31 = .ok (.if_icmp .eq 15, 3) := by decide +kernel
theorem dX9_clearOfHundred_34 : decode cX9_clearOfHundred 34 = .ok (.iload 4, 2) := by decide +kernel
theorem dX9_clearOfHundred_36 : decode cX9_clearOfHundred 36 = .ok (.bipush 10, 2) := by decide +kernel
theorem dX9_clearOfHundred_38 : decode cX9_clearOfHundred 38 = .ok (.iload_n 3, 1) := by decide +kernel
theorem dX9_clearOfHundred_39 : decode cX9_clearOfHundred 39 = .ok (.isub, 1) := by decide +kernel
theorem dX9_clearOfHundred_40 : decode cX9_clearOfHundred 40 = .ok (.imul, 1) := by decide +kernel
theorem dX9_clearOfHundred_41 : decode cX9_clearOfHundred 41 = .ok (.bipush 10, 2) := by decide +kernel
theorem dX9_clearOfHundred_43 : decode cX9_clearOfHundred 43 = .ok (.idiv, 1) := by decide +kernel
theorem dX9_clearOfHundred_44 : decode cX9_clearOfHundred 44 = .ok (.istore 4, 2) := by decide +kernel
theorem dX9_clearOfHundred_46 : decode cX9_clearOfHundred 46 = .ok (.aload_n 0, 1) := by decide +kernel
theorem dX9_clearOfHundred_47 : decode cX9_clearOfHundred 47 = .ok (.getfield 19, 3) := by decide +kernel
theorem dX9_clearOfHundred_50 : decode cX9_clearOfHundred 50 = .ok (.iload_n 1, 1) := by decide +kernel
theorem dX9_clearOfHundred_51 : decode cX9_clearOfHundred 51 = .ok (.iload_n 2, 1) := by decide +kernel
theorem dX9_clearOfHundred_52 : decode cX9_clearOfHundred 52 = .ok (.invokevirtual 279, 3) := by decide +kernel
theorem dX9_clearOfHundred_55 : decode cX9_clearOfHundred 55 = .ok (.iconst (-1), 1) := by decide +kernel
theorem dX9_clearOfHundred_56 : decode cX9_clearOfHundred 56 = .ok (.if_icmp .eq 15, 3) := by decide +kernel
theorem dX9_clearOfHundred_59 : decode cX9_clearOfHundred 59 = .ok (.iload 4, 2) := by decide +kernel
theorem dX9_clearOfHundred_61 : decode cX9_clearOfHundred 61 = .ok (.bipush 10, 2) := by decide +kernel
theorem dX9_clearOfHundred_63 : decode cX9_clearOfHundred 63 = .ok (.iload_n 3, 1) := by decide +kernel
theorem dX9_clearOfHundred_64 : decode cX9_clearOfHundred 64 = .ok (.isub, 1) := by decide +kernel
theorem dX9_clearOfHundred_65 : decode cX9_clearOfHundred 65 = .ok (.imul, 1) := by decide +kernel
theorem dX9_clearOfHundred_66 : decode cX9_clearOfHundred 66 = .ok (.bipush 10, 2) := by decide +kernel
theorem dX9_clearOfHundred_68 : decode cX9_clearOfHundred 68 = .ok (.idiv, 1) := by decide +kernel
theorem dX9_clearOfHundred_69 : decode cX9_clearOfHundred 69 = .ok (.istore 4, 2) := by decide +kernel
theorem dX9_clearOfHundred_71 : decode cX9_clearOfHundred 71 = .ok (.bipush 100, 2) := by decide +kernel
theorem dX9_clearOfHundred_73 : decode cX9_clearOfHundred 73 = .ok (.iload 4, 2) := by decide +kernel
theorem dX9_clearOfHundred_75 : decode cX9_clearOfHundred 75 = .ok (.isub, 1) := by decide +kernel
theorem dX9_clearOfHundred_76 : decode cX9_clearOfHundred 76 = .ok (.ireturn, 1) := by decide +kernel
theorem dX9_greatestDivisor_0 : decode cX9_greatestDivisor 0 = .ok (.bipush 100, 2) := by decide +kernel
theorem dX9_greatestDivisor_2 : decode cX9_greatestDivisor 2 = .ok (.istore_n 2, 1) := by decide +kernel
theorem dX9_greatestDivisor_3 : decode cX9_greatestDivisor 3 = .ok (.iload_n 2, 1) := by decide +kernel
theorem dX9_greatestDivisor_4 : decode cX9_greatestDivisor 4 = .ok (.iconst 1, 1) := by decide +kernel
theorem dX9_greatestDivisor_5 : decode cX9_greatestDivisor 5 = .ok (.if_icmp .le 23, 3) := by decide +kernel
theorem dX9_greatestDivisor_8 : decode cX9_greatestDivisor 8 = .ok (.iload_n 0, 1) := by decide +kernel
theorem dX9_greatestDivisor_9 : decode cX9_greatestDivisor 9 = .ok (.iload_n 2, 1) := by decide +kernel
theorem dX9_greatestDivisor_10 : decode cX9_greatestDivisor 10 = .ok (.irem, 1) := by decide +kernel
theorem dX9_greatestDivisor_11 : decode cX9_greatestDivisor 11 = .ok (.ifCond .ne 11, 3) := by decide +kernel
theorem dX9_greatestDivisor_14 : decode cX9_greatestDivisor 14 = .ok (.iload_n 1, 1) := by decide +kernel
theorem dX9_greatestDivisor_15 : decode cX9_greatestDivisor 15 = .ok (.iload_n 2, 1) := by decide +kernel
theorem dX9_greatestDivisor_16 : decode cX9_greatestDivisor 16 = .ok (.irem, 1) := by decide +kernel
theorem dX9_greatestDivisor_17 : decode cX9_greatestDivisor 17 = .ok (.ifCond .ne 5, 3) := by decide +kernel
theorem dX9_greatestDivisor_20 : decode cX9_greatestDivisor 20 = .ok (.iload_n 2, 1) := by decide +kernel
theorem dX9_greatestDivisor_21 : decode cX9_greatestDivisor 21 = .ok (.ireturn, 1) := by decide +kernel
theorem dX9_greatestDivisor_22 : decode cX9_greatestDivisor 22 = .ok (.iinc 2 (-1), 3) := by decide +kernel
theorem dX9_greatestDivisor_25 : decode cX9_greatestDivisor 25 = .ok (.goto (-22), 3) := by decide +kernel
theorem dX9_greatestDivisor_28 : decode cX9_greatestDivisor 28 = .ok (.iconst 1, 1) := by decide +kernel
theorem dX9_greatestDivisor_29 : decode cX9_greatestDivisor 29 = .ok (.ireturn, 1) := by decide +kernel
theorem dX10_init_0 : decode cX10_init 0 = .ok (.aload_n 0, 1) := by decide +kernel
theorem dX10_init_1 : decode cX10_init 1 = .ok (.invokespecial 1, 3) := by decide +kernel
theorem dX10_init_4 : decode cX10_init 4 = .ok (.aload_n 0, 1) := by decide +kernel
theorem dX10_init_5 : decode cX10_init 5 = .ok (.iconst 5, 1) := by decide +kernel
theorem dX10_init_6 : decode cX10_init 6 = .ok (.putfield 7, 3) := by decide +kernel
theorem dX10_init_9 : decode cX10_init 9 = .ok (.aload_n 0, 1) := by decide +kernel
theorem dX10_init_10 : decode cX10_init 10 = .ok (.iconst 4, 1) := by decide +kernel
theorem dX10_init_11 : decode cX10_init 11 = .ok (.putfield 13, 3) := by decide +kernel
theorem dX10_init_14 : decode cX10_init 14 = .ok (.aload_n 0, 1) := by decide +kernel
theorem dX10_init_15 : decode cX10_init 15 = .ok (.bipush 20, 2) := by decide +kernel
theorem dX10_init_17 : decode cX10_init 17 = .ok (.newarray .int, 2) := by decide +kernel
theorem dX10_init_19 : decode cX10_init 19 = .ok (.putfield 16, 3) := by decide +kernel
theorem dX10_init_22 : decode cX10_init 22 = .ok (.aload_n 0, 1) := by decide +kernel
theorem dX10_init_23 : decode cX10_init 23 = .ok (.bipush 8, 2) := by decide +kernel
theorem dX10_init_25 : decode cX10_init 25 = .ok (.newarray .int, 2) := by decide +kernel
theorem dX10_init_27 : decode cX10_init 27 = .ok (.putfield 20, 3) := by decide +kernel
theorem dX10_init_30 : decode cX10_init 30 = .ok (.aload_n 0, 1) := by decide +kernel
theorem dX10_init_31 : decode cX10_init 31 = .ok (.bipush 11, 2) := by decide +kernel
theorem dX10_init_33 : decode cX10_init 33 = .ok (.newarray .int, 2) := by decide +kernel
theorem dX10_init_35 : decode cX10_init 35 = .ok (.putfield 23, 3) := by decide +kernel
theorem dX10_init_38 : decode cX10_init 38 = .ok (.aload_n 0, 1) := by decide +kernel
theorem dX10_init_39 : decode cX10_init 39 = .ok (.bipush 11, 2) := by decide +kernel
theorem dX10_init_41 : decode cX10_init 41 = .ok (.newarray .int, 2) := by decide +kernel
theorem dX10_init_43 : decode cX10_init 43 = .ok (.putfield 26, 3) := by decide +kernel
theorem dX10_init_46 : decode cX10_init 46 = .ok (.aload_n 0, 1) := by decide +kernel
theorem dX10_init_47 : decode cX10_init 47 = .ok (.bipush 110, 2) := by decide +kernel
theorem dX10_init_49 : decode cX10_init 49 = .ok (.newarray .int, 2) := by decide +kernel
theorem dX10_init_51 : decode cX10_init 51 = .ok (.putfield 29, 3) := by decide +kernel
theorem dX10_init_54 : decode cX10_init 54 = .ok (.aload_n 0, 1) := by decide +kernel
theorem dX10_init_55 : decode cX10_init 55 = .ok (.bipush 22, 2) := by decide +kernel
theorem dX10_init_57 : decode cX10_init 57 = .ok (.newarray .int, 2) := by decide +kernel
theorem dX10_init_59 : decode cX10_init 59 = .ok (.putfield 32, 3) := by decide +kernel
theorem dX10_init_62 : decode cX10_init 62 = .ok (.aload_n 0, 1) := by decide +kernel
theorem dX10_init_63 : decode cX10_init 63 = .ok (.sipush 220, 3) := by decide +kernel
theorem dX10_init_66 : decode cX10_init 66 = .ok (.newarray .int, 2) := by decide +kernel
theorem dX10_init_68 : decode cX10_init 68 = .ok (.putfield 35, 3) := by decide +kernel
theorem dX10_init_71 : decode cX10_init 71 = .ok (.aload_n 0, 1) := by decide +kernel
theorem dX10_init_72 : decode cX10_init 72 = .ok (.iconst 2, 1) := by decide +kernel
theorem dX10_init_73 : decode cX10_init 73 = .ok (.newarray .int, 2) := by decide +kernel
theorem dX10_init_75 : decode cX10_init 75 = .ok (.putfield 38, 3) := by decide +kernel
theorem dX10_init_78 : decode cX10_init 78 = .ok (.aload_n 0, 1) := by decide +kernel
theorem dX10_init_79 : decode cX10_init 79 = .ok (.iconst 2, 1) := by decide +kernel
theorem dX10_init_80 : decode cX10_init 80 = .ok (.newarray .boolean, 2) := by decide +kernel
theorem dX10_init_82 : decode cX10_init 82 = .ok (.putfield 41, 3) := by decide +kernel
theorem dX10_init_85 : decode cX10_init 85 = .ok (.aload_n 0, 1) := by decide +kernel
theorem dX10_init_86 : decode cX10_init 86 = .ok (.bipush 24, 2) := by decide +kernel
theorem dX10_init_88 : decode cX10_init 88 = .ok (.newarray .int, 2) := by decide +kernel
theorem dX10_init_90 : decode cX10_init 90 = .ok (.putfield 45, 3) := by decide +kernel
theorem dX10_init_93 : decode cX10_init 93 = .ok (.aload_n 0, 1) := by decide +kernel
theorem dX10_init_94 : decode cX10_init 94 = .ok (.sipush 170, 3) := by decide +kernel
theorem dX10_init_97 : decode cX10_init 97 = .ok (.newarray .int, 2) := by decide +kernel
theorem dX10_init_99 : decode cX10_init 99 = .ok (.putfield 48, 3) := by decide +kernel
theorem dX10_init_102 : decode cX10_init 102 = .ok (.aload_n 0, 1) := by decide +kernel
theorem dX10_init_103 : decode cX10_init 103 = .ok (.bipush 20, 2) := by decide +kernel
theorem dX10_init_105 : decode cX10_init 105 = .ok (.newarray .int, 2) := by decide +kernel
theorem dX10_init_107 : decode cX10_init 107 = .ok (.putfield 51, 3) := by decide +kernel
theorem dX10_init_110 : decode cX10_init 110 = .ok (.aload_n 0, 1) := by decide +kernel
theorem dX10_init_111 : decode cX10_init 111 = .ok (.bipush 8, 2) := by decide +kernel
theorem dX10_init_113 : decode cX10_init 113 = .ok (.newarray .int, 2) := by decide +kernel
theorem dX10_init_115 : decode cX10_init 115 = .ok (.putfield 54, 3) := by decide +kernel
theorem dX10_init_118 : decode cX10_init 118 = .ok (.aload_n 0, 1) := by decide +kernel
theorem dX10_init_119 : decode cX10_init 119 = .ok (.bipush 20, 2) := by decide +kernel
theorem dX10_init_121 : decode cX10_init 121 = .ok (.newarray .int, 2) := by decide +kernel
theorem dX10_init_123 : decode cX10_init 123 = .ok (.putfield 57, 3) := by decide +kernel
theorem dX10_init_126 : decode cX10_init 126 = .ok (.aload_n 0, 1) := by decide +kernel
theorem dX10_init_127 : decode cX10_init 127 = .ok (.bipush 20, 2) := by decide +kernel
theorem dX10_init_129 : decode cX10_init 129 = .ok (.newarray .int, 2) := by decide +kernel
theorem dX10_init_131 : decode cX10_init 131 = .ok (.putfield 60, 3) := by decide +kernel
theorem dX10_init_134 : decode cX10_init 134 = .ok (.aload_n 0, 1) := by decide +kernel
theorem dX10_init_135 : decode cX10_init 135 = .ok (.sipush 756, 3) := by decide +kernel
theorem dX10_init_138 : decode cX10_init 138 = .ok (.newarray .int, 2) := by decide +kernel
theorem dX10_init_140 : decode cX10_init 140 = .ok (.putfield 63, 3) := by decide +kernel
theorem dX10_init_143 : decode cX10_init 143 = .ok (.aload_n 0, 1) := by decide +kernel
theorem dX10_init_144 : decode cX10_init 144 = .ok (.bipush 8, 2) := by decide +kernel
theorem dX10_init_146 : decode cX10_init 146 = .ok (.newarray .int, 2) := by decide +kernel
theorem dX10_init_148 : decode cX10_init 148 = .ok (.putfield 66, 3) := by decide +kernel
theorem dX10_init_151 : decode cX10_init 151 = .ok (.iconst 0, 1) := by decide +kernel
theorem dX10_init_152 : decode cX10_init 152 = .ok (.istore_n 1, 1) := by decide +kernel
theorem dX10_init_153 : decode cX10_init 153 = .ok (.iload_n 1, 1) := by decide +kernel
theorem dX10_init_154 : decode cX10_init 154 = .ok (.bipush 20, 2) := by decide +kernel
theorem dX10_init_156 : decode cX10_init 156 = .ok (.if_icmp .ge 17, 3) := by decide +kernel
theorem dX10_init_159 : decode cX10_init 159 = .ok (.aload_n 0, 1) := by decide +kernel
theorem dX10_init_160 : decode cX10_init 160 = .ok (.getfield 16, 3) := by decide +kernel
theorem dX10_init_163 : decode cX10_init 163 = .ok (.iload_n 1, 1) := by decide +kernel
theorem dX10_init_164 : decode cX10_init 164 = .ok (.bipush 7, 2) := by decide +kernel
theorem dX10_init_166 : decode cX10_init 166 = .ok (.iastore, 1) := by decide +kernel
theorem dX10_init_167 : decode cX10_init 167 = .ok (.iinc 1 1, 3) := by decide +kernel
theorem dX10_init_170 : decode cX10_init 170 = .ok (.goto (-17), 3) := by decide +kernel
theorem dX10_init_173 : decode cX10_init 173 = .ok (.aload_n 0, 1) := by decide +kernel
theorem dX10_init_174 : decode cX10_init 174 = .ok (.bipush 12, 2) := by decide +kernel
theorem dX10_init_176 : decode cX10_init 176 = .ok (.iconst 0, 1) := by decide +kernel
theorem dX10_init_177 : decode cX10_init 177 = .ok (.invokevirtual 69, 3) := by decide +kernel
theorem dX10_init_180 : decode cX10_init 180 = .ok (.return_, 1) := by decide +kernel
theorem dX10_in_0 : decode cX10_in 0 = .ok (.lload_n 0, 1) := by decide +kernel
theorem dX10_in_1 : decode cX10_in 1 = .ok (.lload_n 2, 1) := by decide +kernel
theorem dX10_in_2 : decode cX10_in 2 = .ok (.lcmp, 1) := by decide +kernel
theorem dX10_in_3 : decode cX10_in 3 = .ok (.ifCond .lt 14, 3) := by decide +kernel
theorem dX10_in_6 : decode cX10_in 6 = .ok (.lload_n 0, 1) := by decide +kernel
theorem dX10_in_7 : decode cX10_in 7 = .ok (.lload 4, 2) := by decide +kernel
theorem dX10_in_9 : decode cX10_in 9 = .ok (.lcmp, 1) := by decide +kernel
theorem dX10_in_10 : decode cX10_in 10 = .ok (.ifCond .gt 7, 3) := by decide +kernel
theorem dX10_in_13 : decode cX10_in 13 = .ok (.iconst 1, 1) := by decide +kernel
theorem dX10_in_14 : decode cX10_in 14 = .ok (.goto 4, 3) := by decide +kernel
theorem dX10_in_17 : decode cX10_in 17 = .ok (.iconst 0, 1) := by decide +kernel
theorem dX10_in_18 : decode cX10_in 18 = .ok (.ireturn, 1) := by decide +kernel
theorem dX10_has_0 : decode cX10_has 0 = .ok (.iload_n 0, 1) := by decide +kernel
theorem dX10_has_1 : decode cX10_has 1 = .ok (.iload_n 1, 1) := by decide +kernel
theorem dX10_has_2 : decode cX10_has 2 = .ok (.ishr, 1) := by decide +kernel
theorem dX10_has_3 : decode cX10_has 3 = .ok (.iconst 1, 1) := by decide +kernel
theorem dX10_has_4 : decode cX10_has 4 = .ok (.iand, 1) := by decide +kernel
theorem dX10_has_5 : decode cX10_has 5 = .ok (.iconst 1, 1) := by decide +kernel
theorem dX10_has_6 : decode cX10_has 6 = .ok (.if_icmp .ne 7, 3) := by decide +kernel
theorem dX10_has_9 : decode cX10_has 9 = .ok (.iconst 1, 1) := by decide +kernel
theorem dX10_has_10 : decode cX10_has 10 = .ok (.goto 4, 3) := by decide +kernel
theorem dX10_has_13 : decode cX10_has 13 = .ok (.iconst 0, 1) := by decide +kernel
theorem dX10_has_14 : decode cX10_has 14 = .ok (.ireturn, 1) := by decide +kernel
theorem dX10_bits_0 : decode cX10_bits 0 = .ok (.iconst 0, 1) := by decide +kernel
theorem dX10_bits_1 : decode cX10_bits 1 = .ok (.istore_n 1, 1) := by decide +kernel
theorem dX10_bits_2 : decode cX10_bits 2 = .ok (.iload_n 0, 1) := by decide +kernel
theorem dX10_bits_3 : decode cX10_bits 3 = .ok (.istore_n 2, 1) := by decide +kernel
theorem dX10_bits_4 : decode cX10_bits 4 = .ok (.iload_n 2, 1) := by decide +kernel
theorem dX10_bits_5 : decode cX10_bits 5 = .ok (.ifCond .eq 15, 3) := by decide +kernel
theorem dX10_bits_8 : decode cX10_bits 8 = .ok (.iinc 1 1, 3) := by decide +kernel
theorem dX10_bits_11 : decode cX10_bits 11 = .ok (.iload_n 2, 1) := by decide +kernel
theorem dX10_bits_12 : decode cX10_bits 12 = .ok (.iload_n 2, 1) := by decide +kernel
theorem dX10_bits_13 : decode cX10_bits 13 = .ok (.iconst 1, 1) := by decide +kernel
theorem dX10_bits_14 : decode cX10_bits 14 = .ok (.isub, 1) := by decide +kernel
theorem dX10_bits_15 : decode cX10_bits 15 = .ok (.iand, 1) := by decide +kernel
theorem dX10_bits_16 : decode cX10_bits 16 = .ok (.istore_n 2, 1) := by decide +kernel
theorem dX10_bits_17 : decode cX10_bits 17 = .ok (.goto (-13), 3) := by decide +kernel
theorem dX10_bits_20 : decode cX10_bits 20 = .ok (.iload_n 1, 1) := by decide +kernel
theorem dX10_bits_21 : decode cX10_bits 21 = .ok (.ireturn, 1) := by decide +kernel
theorem dX10_copies_0 : decode cX10_copies 0 = .ok (.iconst 0, 1) := by decide +kernel
theorem dX10_copies_1 : decode cX10_copies 1 = .ok (.istore 5, 2) := by decide +kernel
theorem dX10_copies_3 : decode cX10_copies 3 = .ok (.iload 5, 2) := by decide +kernel
theorem dX10_copies_5 : decode cX10_copies 5 = .ok (.iload 4, 2) := by decide +kernel
theorem dX10_copies_7 : decode cX10_copies 7 = .ok (.if_icmp .ge 21, 3) := by decide +kernel
theorem dX10_copies_10 : decode cX10_copies 10 = .ok (.aload_n 2, 1) := by decide +kernel
theorem dX10_copies_11 : decode cX10_copies 11 = .ok (.iload_n 3, 1) := by decide +kernel
theorem dX10_copies_12 : decode cX10_copies 12 = .ok (.iload 5, 2) := by decide +kernel
theorem dX10_copies_14 : decode cX10_copies 14 = .ok (.iadd, 1) := by decide +kernel
theorem dX10_copies_15 : decode cX10_copies 15 = .ok (.aload_n 0, 1) := by decide +kernel
theorem dX10_copies_16 : decode cX10_copies 16 = .ok (.iload_n 1, 1) := by decide +kernel
theorem dX10_copies_17 : decode cX10_copies 17 = .ok (.iload 5, 2) := by decide +kernel
theorem dX10_copies_19 : decode cX10_copies 19 = .ok (.iadd, 1) := by decide +kernel
theorem dX10_copies_20 : decode cX10_copies 20 = .ok (.iaload, 1) := by decide +kernel
theorem dX10_copies_21 : decode cX10_copies 21 = .ok (.iastore, 1) := by decide +kernel
theorem dX10_copies_22 : decode cX10_copies 22 = .ok (.iinc 5 1, 3) := by decide +kernel
theorem dX10_copies_25 : decode cX10_copies 25 = .ok (.goto (-22), 3) := by decide +kernel
theorem dX10_copies_28 : decode cX10_copies 28 = .ok (.return_, 1) := by decide +kernel
theorem dX10_begins_0 : decode cX10_begins 0 = .ok (.iconst 0, 1) := by decide +kernel
theorem dX10_begins_1 : decode cX10_begins 1 = .ok (.istore_n 3, 1) := by decide +kernel
theorem dX10_begins_2 : decode cX10_begins 2 = .ok (.iload_n 3, 1) := by decide +kernel
theorem dX10_begins_3 : decode cX10_begins 3 = .ok (.bipush 8, 2) := by decide +kernel
theorem dX10_begins_5 : decode cX10_begins 5 = .ok (.if_icmp .ge 19, 3) := by decide +kernel
theorem dX10_begins_8 : decode cX10_begins 8 = .ok (.aload_n 0, 1) := by decide +kernel
theorem dX10_begins_9 : decode cX10_begins 9 = .ok (.getfield 23, 3) := by decide +kernel
theorem dX10_begins_12 : decode cX10_begins 12 = .ok (.iconst 0, 1) := by decide +kernel
theorem dX10_begins_13 : decode cX10_begins 13 = .ok (.iload_n 3, 1) := by decide +kernel
theorem dX10_begins_14 : decode cX10_begins 14 = .ok (.iadd, 1) := by decide +kernel
theorem dX10_begins_15 : decode cX10_begins 15 = .ok (.bipush (-9), 2) := by decide +kernel
theorem dX10_begins_17 : decode cX10_begins 17 = .ok (.iastore, 1) := by decide +kernel
theorem dX10_begins_18 : decode cX10_begins 18 = .ok (.iinc 3 1, 3) := by decide +kernel
theorem dX10_begins_21 : decode cX10_begins 21 = .ok (.goto (-19), 3) := by decide +kernel
theorem dX10_begins_24 : decode cX10_begins 24 = .ok (.aload_n 0, 1) := by decide +kernel
theorem dX10_begins_25 : decode cX10_begins 25 = .ok (.getfield 23, 3) := by decide +kernel
theorem dX10_begins_28 : decode cX10_begins 28 = .ok (.bipush 8, 2) := by decide +kernel
theorem dX10_begins_30 : decode cX10_begins 30 = .ok (.iconst 0, 1) := by decide +kernel
theorem dX10_begins_31 : decode cX10_begins 31 = .ok (.iastore, 1) := by decide +kernel
theorem dX10_begins_32 : decode cX10_begins 32 = .ok (.aload_n 0, 1) := by decide +kernel
theorem dX10_begins_33 : decode cX10_begins 33 = .ok (.getfield 23, 3) := by decide +kernel
theorem dX10_begins_36 : decode cX10_begins 36 = .ok (.bipush 9, 2) := by decide +kernel
theorem dX10_begins_38 : decode cX10_begins 38 = .ok (.iload_n 1, 1) := by decide +kernel
theorem dX10_begins_39 : decode cX10_begins 39 = .ok (.iastore, 1) := by decide +kernel
theorem dX10_begins_40 : decode cX10_begins 40 = .ok (.aload_n 0, 1) := by decide +kernel
theorem dX10_begins_41 : decode cX10_begins 41 = .ok (.getfield 23, 3) := by decide +kernel
theorem dX10_begins_44 : decode cX10_begins 44 = .ok (.bipush 10, 2) := by decide +kernel
theorem dX10_begins_46 : decode cX10_begins 46 = .ok (.iload_n 2, 1) := by decide +kernel
theorem dX10_begins_47 : decode cX10_begins 47 = .ok (.iastore, 1) := by decide +kernel
theorem dX10_begins_48 : decode cX10_begins 48 = .ok (.aload_n 0, 1) := by decide +kernel
theorem dX10_begins_49 : decode cX10_begins 49 = .ok (.iconst 0, 1) := by decide +kernel
theorem dX10_begins_50 : decode cX10_begins 50 = .ok (.putfield 73, 3) := by decide +kernel
theorem dX10_begins_53 : decode cX10_begins 53 = .ok (.aload_n 0, 1) := by decide +kernel
theorem dX10_begins_54 : decode cX10_begins 54 = .ok (.iconst 0, 1) := by decide +kernel
theorem dX10_begins_55 : decode cX10_begins 55 = .ok (.putfield 76, 3) := by decide +kernel
theorem dX10_begins_58 : decode cX10_begins 58 = .ok (.aload_n 0, 1) := by decide +kernel
theorem dX10_begins_59 : decode cX10_begins 59 = .ok (.getfield 41, 3) := by decide +kernel
theorem dX10_begins_62 : decode cX10_begins 62 = .ok (.iconst 0, 1) := by decide +kernel
theorem dX10_begins_63 : decode cX10_begins 63 = .ok (.iconst 0, 1) := by decide +kernel
theorem dX10_begins_64 : decode cX10_begins 64 = .ok (.bastore, 1) := by decide +kernel
theorem dX10_begins_65 : decode cX10_begins 65 = .ok (.aload_n 0, 1) := by decide +kernel
theorem dX10_begins_66 : decode cX10_begins 66 = .ok (.getfield 41, 3) := by decide +kernel
theorem dX10_begins_69 : decode cX10_begins 69 = .ok (.iconst 1, 1) := by decide +kernel
theorem dX10_begins_70 : decode cX10_begins 70 = .ok (.iconst 0, 1) := by decide +kernel
theorem dX10_begins_71 : decode cX10_begins 71 = .ok (.bastore, 1) := by decide +kernel
theorem dX10_begins_72 : decode cX10_begins 72 = .ok (.return_, 1) := by decide +kernel
theorem dX10_type_0 : decode cX10_type 0 = .ok (.iload_n 1, 1) := by decide +kernel
theorem dX10_type_1 : decode cX10_type 1 = .ok (.i2l, 1) := by decide +kernel
theorem dX10_type_2 : decode cX10_type 2 = .ok (.lconst 0, 1) := by decide +kernel
theorem dX10_type_3 : decode cX10_type 3 = .ok (.ldc2_w 79, 3) := by decide +kernel
theorem dX10_type_6 : decode cX10_type 6 = .ok (.invokestatic 81, 3) := by decide +kernel
theorem dX10_type_9 : decode cX10_type 9 = .ok (.ifCond .ne 5, 3) := by decide +kernel
theorem dX10_type_12 : decode cX10_type 12 = .ok (.iconst (-1), 1) := by decide +kernel
theorem dX10_type_13 : decode cX10_type 13 = .ok (.ireturn, 1) := by decide +kernel
theorem dX10_type_14 : decode cX10_type 14 = .ok (.aload_n 0, 1) := by decide +kernel
theorem dX10_type_15 : decode cX10_type 15 = .ok (.getfield 85, 3) := by decide +kernel
theorem dX10_type_18 : decode cX10_type 18 = .ok (.sipush 170, 3) := by decide +kernel
theorem dX10_type_21 : decode cX10_type 21 = .ok (.if_icmp .ne 6, 3) := by decide +kernel
theorem dX10_type_24 : decode cX10_type 24 = .ok (.bipush (-3), 2) := by decide +kernel
theorem dX10_type_26 : decode cX10_type 26 = .ok (.ireturn, 1) := by decide +kernel
theorem dX10_type_27 : decode cX10_type 27 = .ok (.aload_n 0, 1) := by decide +kernel
theorem dX10_type_28 : decode cX10_type 28 = .ok (.getfield 48, 3) := by decide +kernel
theorem dX10_type_31 : decode cX10_type 31 = .ok (.aload_n 0, 1) := by decide +kernel
theorem dX10_type_32 : decode cX10_type 32 = .ok (.getfield 85, 3) := by decide +kernel
theorem dX10_type_35 : decode cX10_type 35 = .ok (.iload_n 1, 1) := by decide +kernel
theorem dX10_type_36 : decode cX10_type 36 = .ok (.iastore, 1) := by decide +kernel
theorem dX10_type_37 : decode cX10_type 37 = .ok (.aload_n 0, 1) := by decide +kernel
theorem dX10_type_38 : decode cX10_type 38 = .ok (.dup, 1) := by decide +kernel
theorem dX10_type_39 : decode cX10_type 39 = .ok (.getfield 85, 3) := by decide +kernel
theorem dX10_type_42 : decode cX10_type 42 = .ok (.iconst 1, 1) := by decide +kernel
theorem dX10_type_43 : decode cX10_type 43 = .ok (.iadd, 1) := by decide +kernel
theorem dX10_type_44 : decode cX10_type 44 = .ok (.putfield 85, 3) := by decide +kernel
theorem dX10_type_47 : decode cX10_type 47 = .ok (.aload_n 0, 1) := by decide +kernel
theorem dX10_type_48 : decode cX10_type 48 = .ok (.getfield 85, 3) := by decide +kernel
theorem dX10_type_51 : decode cX10_type 51 = .ok (.ireturn, 1) := by decide +kernel
theorem dX10_clear_0 : decode cX10_clear 0 = .ok (.aload_n 0, 1) := by decide +kernel
theorem dX10_clear_1 : decode cX10_clear 1 = .ok (.getfield 85, 3) := by decide +kernel
theorem dX10_clear_4 : decode cX10_clear 4 = .ok (.istore_n 1, 1) := by decide +kernel
theorem dX10_clear_5 : decode cX10_clear 5 = .ok (.aload_n 0, 1) := by decide +kernel
theorem dX10_clear_6 : decode cX10_clear 6 = .ok (.iconst 0, 1) := by decide +kernel
theorem dX10_clear_7 : decode cX10_clear 7 = .ok (.putfield 85, 3) := by decide +kernel
theorem dX10_clear_10 : decode cX10_clear 10 = .ok (.iload_n 1, 1) := by decide +kernel
theorem dX10_clear_11 : decode cX10_clear 11 = .ok (.ireturn, 1) := by decide +kernel
theorem dX10_isLetter_0 : decode cX10_isLetter 0 = .ok (.aload_n 0, 1) := by decide +kernel
theorem dX10_isLetter_1 : decode cX10_isLetter 1 = .ok (.getfield 88, 3) := by decide +kernel
theorem dX10_isLetter_4 : decode cX10_isLetter 4 = .ok (.aload_n 0, 1) := by decide +kernel
theorem dX10_isLetter_5 : decode cX10_isLetter 5 = .ok (.getfield 85, 3) := by decide +kernel
theorem dX10_isLetter_8 : decode cX10_isLetter 8 = .ok (.if_icmp .ge 29, 3) := by decide +kernel
theorem dX10_isLetter_11 : decode cX10_isLetter 11 = .ok (.aload_n 0, 1) := by decide +kernel
theorem dX10_isLetter_12 : decode cX10_isLetter 12 = .ok (.getfield 48, 3) := by decide +kernel
theorem dX10_isLetter_15 : decode cX10_isLetter 15 = .ok (.aload_n 0, 1) := by decide +kernel
theorem dX10_isLetter_16 : decode cX10_isLetter 16 = .ok (.getfield 88, 3) := by decide +kernel
theorem dX10_isLetter_19 : decode cX10_isLetter 19 = .ok (.iaload, 1) := by decide +kernel
theorem dX10_isLetter_20 : decode cX10_isLetter 20 = .ok (.i2l, 1) := by decide +kernel
theorem dX10_isLetter_21 : decode cX10_isLetter 21 = .ok (.ldc2_w 91, 3) := by decide +kernel
theorem dX10_isLetter_24 : decode cX10_isLetter 24 = .ok (.ldc2_w 93, 3) := by decide +kernel
theorem dX10_isLetter_27 : decode cX10_isLetter 27 = .ok (.invokestatic 81, 3) := by decide +kernel
theorem dX10_isLetter_30 : decode cX10_isLetter 30 = .ok (.ifCond .eq 7, 3) := by decide +kernel
theorem dX10_isLetter_33 : decode cX10_isLetter 33 = .ok (.iconst 1, 1) := by decide +kernel
theorem dX10_isLetter_34 : decode cX10_isLetter 34 = .ok (.goto 4, 3) := by decide +kernel
theorem dX10_isLetter_37 : decode cX10_isLetter 37 = .ok (.iconst 0, 1) := by decide +kernel
theorem dX10_isLetter_38 : decode cX10_isLetter 38 = .ok (.ireturn, 1) := by decide +kernel
theorem dX10_isFigure_0 : decode cX10_isFigure 0 = .ok (.aload_n 0, 1) := by decide +kernel
theorem dX10_isFigure_1 : decode cX10_isFigure 1 = .ok (.getfield 88, 3) := by decide +kernel
theorem dX10_isFigure_4 : decode cX10_isFigure 4 = .ok (.aload_n 0, 1) := by decide +kernel
theorem dX10_isFigure_5 : decode cX10_isFigure 5 = .ok (.getfield 85, 3) := by decide +kernel
theorem dX10_isFigure_8 : decode cX10_isFigure 8 = .ok (.if_icmp .ge 29, 3) := by decide +kernel
theorem dX10_isFigure_11 : decode cX10_isFigure 11 = .ok (.aload_n 0, 1) := by decide +kernel
theorem dX10_isFigure_12 : decode cX10_isFigure 12 = .ok (.getfield 48, 3) := by decide +kernel
theorem dX10_isFigure_15 : decode cX10_isFigure 15 = .ok (.aload_n 0, 1) := by decide +kernel
theorem dX10_isFigure_16 : decode cX10_isFigure 16 = .ok (.getfield 88, 3) := by decide +kernel
theorem dX10_isFigure_19 : decode cX10_isFigure 19 = .ok (.iaload, 1) := by decide +kernel
theorem dX10_isFigure_20 : decode cX10_isFigure 20 = .ok (.i2l, 1) := by decide +kernel
theorem dX10_isFigure_21 : decode cX10_isFigure 21 = .ok (.ldc2_w 95, 3) := by decide +kernel
theorem dX10_isFigure_24 : decode cX10_isFigure 24 = .ok (.ldc2_w 97, 3) := by decide +kernel
theorem dX10_isFigure_27 : decode cX10_isFigure 27 = .ok (.invokestatic 81, 3) := by decide +kernel
theorem dX10_isFigure_30 : decode cX10_isFigure 30 = .ok (.ifCond .eq 7, 3) := by decide +kernel
theorem dX10_isFigure_33 : decode cX10_isFigure 33 = .ok (.iconst 1, 1) := by decide +kernel
theorem dX10_isFigure_34 : decode cX10_isFigure 34 = .ok (.goto 4, 3) := by decide +kernel
theorem dX10_isFigure_37 : decode cX10_isFigure 37 = .ok (.iconst 0, 1) := by decide +kernel
theorem dX10_isFigure_38 : decode cX10_isFigure 38 = .ok (.ireturn, 1) := by decide +kernel
theorem dX10_step_0 : decode cX10_step 0 = .ok (.aload_n 0, 1) := by decide +kernel
theorem dX10_step_1 : decode cX10_step 1 = .ok (.getfield 88, 3) := by decide +kernel
theorem dX10_step_4 : decode cX10_step 4 = .ok (.aload_n 0, 1) := by decide +kernel
theorem dX10_step_5 : decode cX10_step 5 = .ok (.getfield 85, 3) := by decide +kernel
theorem dX10_step_8 : decode cX10_step 8 = .ok (.if_icmp .ge 30, 3) := by decide +kernel
theorem dX10_step_11 : decode cX10_step 11 = .ok (.aload_n 0, 1) := by decide +kernel
theorem dX10_step_12 : decode cX10_step 12 = .ok (.getfield 48, 3) := by decide +kernel
theorem dX10_step_15 : decode cX10_step 15 = .ok (.aload_n 0, 1) := by decide +kernel
theorem dX10_step_16 : decode cX10_step 16 = .ok (.getfield 88, 3) := by decide +kernel
theorem dX10_step_19 : decode cX10_step 19 = .ok (.iaload, 1) := by decide +kernel
theorem dX10_step_20 : decode cX10_step 20 = .ok (.bipush 32, 2) := by decide +kernel
theorem dX10_step_22 : decode cX10_step 22 = .ok (.if_icmp .ne 16, 3) := by decide +kernel
theorem dX10_step_25 : decode cX10_step 25 = .ok (.aload_n 0, 1) := by decide +kernel
theorem dX10_step_26 : decode cX10_step 26 = .ok (.dup, 1) := by decide +kernel
theorem dX10_step_27 : decode cX10_step 27 = .ok (.getfield 88, 3) := by decide +kernel
theorem dX10_step_30 : decode cX10_step 30 = .ok (.iconst 1, 1) := by decide +kernel
theorem dX10_step_31 : decode cX10_step 31 = .ok (.iadd, 1) := by decide +kernel
theorem dX10_step_32 : decode cX10_step 32 = .ok (.putfield 88, 3) := by decide +kernel
theorem dX10_step_35 : decode cX10_step 35 = .ok (.goto (-35), 3) := by decide +kernel
theorem dX10_step_38 : decode cX10_step 38 = .ok (.aload_n 0, 1) := by decide +kernel
theorem dX10_step_39 : decode cX10_step 39 = .ok (.aload_n 0, 1) := by decide +kernel
theorem dX10_step_40 : decode cX10_step 40 = .ok (.getfield 88, 3) := by decide +kernel
theorem dX10_step_43 : decode cX10_step 43 = .ok (.putfield 99, 3) := by decide +kernel
theorem dX10_step_46 : decode cX10_step 46 = .ok (.aload_n 0, 1) := by decide +kernel
theorem dX10_step_47 : decode cX10_step 47 = .ok (.iconst 0, 1) := by decide +kernel
theorem dX10_step_48 : decode cX10_step 48 = .ok (.putfield 102, 3) := by decide +kernel
theorem dX10_step_51 : decode cX10_step 51 = .ok (.aload_n 0, 1) := by decide +kernel
theorem dX10_step_52 : decode cX10_step 52 = .ok (.iconst 0, 1) := by decide +kernel
theorem dX10_step_53 : decode cX10_step 53 = .ok (.putfield 105, 3) := by decide +kernel
theorem dX10_step_56 : decode cX10_step 56 = .ok (.aload_n 0, 1) := by decide +kernel
theorem dX10_step_57 : decode cX10_step 57 = .ok (.getfield 88, 3) := by decide +kernel
theorem dX10_step_60 : decode cX10_step 60 = .ok (.aload_n 0, 1) := by decide +kernel
theorem dX10_step_61 : decode cX10_step 61 = .ok (.getfield 85, 3) := by decide +kernel
theorem dX10_step_64 : decode cX10_step 64 = .ok (.if_icmp .ne 11, 3) := by decide +kernel
theorem dX10_step_67 : decode cX10_step 67 = .ok (.aload_n 0, 1) := by decide +kernel
theorem dX10_step_68 : decode cX10_step 68 = .ok (.iconst 0, 1) := by decide +kernel
theorem dX10_step_69 : decode cX10_step 69 = .ok (.putfield 108, 3) := by decide +kernel
theorem dX10_step_72 : decode cX10_step 72 = .ok (.goto 225, 3) := by decide +kernel
theorem dX10_step_75 : decode cX10_step 75 = .ok (.aload_n 0, 1) := by decide +kernel
theorem dX10_step_76 : decode cX10_step 76 = .ok (.invokevirtual 111, 3) := by decide +kernel
theorem dX10_step_79 : decode cX10_step 79 = .ok (.ifCond .eq 69, 3) := by decide +kernel
theorem dX10_step_82 : decode cX10_step 82 = .ok (.aload_n 0, 1) := by decide +kernel
theorem dX10_step_83 : decode cX10_step 83 = .ok (.iconst 1, 1) := by decide +kernel
theorem dX10_step_84 : decode cX10_step 84 = .ok (.putfield 108, 3) := by decide +kernel
theorem dX10_step_87 : decode cX10_step 87 = .ok (.aload_n 0, 1) := by decide +kernel
theorem dX10_step_88 : decode cX10_step 88 = .ok (.aload_n 0, 1) := by decide +kernel
theorem dX10_step_89 : decode cX10_step 89 = .ok (.getfield 48, 3) := by decide +kernel
theorem dX10_step_92 : decode cX10_step 92 = .ok (.aload_n 0, 1) := by decide +kernel
theorem dX10_step_93 : decode cX10_step 93 = .ok (.getfield 88, 3) := by decide +kernel
theorem dX10_step_96 : decode cX10_step 96 = .ok (.iaload, 1) := by decide +kernel
theorem dX10_step_97 : decode cX10_step 97 = .ok (.putfield 102, 3) := by decide +kernel
theorem dX10_step_100 : decode cX10_step 100 = .ok (.aload_n 0, 1) := by decide +kernel
theorem dX10_step_101 : decode cX10_step 101 = .ok (.invokevirtual 111, 3) := by decide +kernel
theorem dX10_step_104 : decode cX10_step 104 = .ok (.ifCond .eq 16, 3) := by decide +kernel
theorem dX10_step_107 : decode cX10_step 107 = .ok (.aload_n 0, 1) := by decide +kernel
theorem dX10_step_108 : decode cX10_step 108 = .ok (.dup, 1) := by decide +kernel
theorem dX10_step_109 : decode cX10_step 109 = .ok (.getfield 88, 3) := by decide +kernel
theorem dX10_step_112 : decode cX10_step 112 = .ok (.iconst 1, 1) := by decide +kernel
theorem dX10_step_113 : decode cX10_step 113 = .ok (.iadd, 1) := by decide +kernel
theorem dX10_step_114 : decode cX10_step 114 = .ok (.putfield 88, 3) := by decide +kernel
theorem dX10_step_117 : decode cX10_step 117 = .ok (.goto (-17), 3) := by decide +kernel
theorem dX10_step_120 : decode cX10_step 120 = .ok (.aload_n 0, 1) := by decide +kernel
theorem dX10_step_121 : decode cX10_step 121 = .ok (.aload_n 0, 1) := by decide +kernel
theorem dX10_step_122 : decode cX10_step 122 = .ok (.getfield 88, 3) := by decide +kernel
theorem dX10_step_125 : decode cX10_step 125 = .ok (.aload_n 0, 1) := by decide +kernel
theorem dX10_step_126 : decode cX10_step 126 = .ok (.getfield 99, 3) := by decide +kernel
theorem dX10_step_129 : decode cX10_step 129 = .ok (.isub, 1) := by decide +kernel
theorem dX10_step_130 : decode cX10_step 130 = .ok (.iconst 1, 1) := by decide +kernel
theorem dX10_step_131 : decode cX10_step 131 = .ok (.if_icmp .ne 10, 3) := by decide +kernel
theorem dX10_step_134 : decode cX10_step 134 = .ok (.aload_n 0, 1) := by decide +kernel
theorem dX10_step_135 : decode cX10_step 135 = .ok (.getfield 102, 3) := by decide +kernel
theorem dX10_step_138 : decode cX10_step 138 = .ok (.goto 4, 3) := by decide +kernel
theorem dX10_step_141 : decode cX10_step 141 = .ok (.iconst 0, 1) := by decide +kernel
theorem dX10_step_142 : decode cX10_step 142 = .ok (.putfield 102, 3) := by decide +kernel
theorem dX10_step_145 : decode cX10_step 145 = .ok (.goto 152, 3) := by decide +kernel
theorem dX10_step_148 : decode cX10_step 148 = .ok (.aload_n 0, 1) := by decide +kernel
theorem dX10_step_149 : decode cX10_step 149 = .ok (.invokevirtual 115, 3) := by decide +kernel
theorem dX10_step_152 : decode cX10_step 152 = .ok (.ifCond .eq 112, 3) := by decide +kernel
theorem dX10_step_155 : decode cX10_step 155 = .ok (.aload_n 0, 1) := by decide +kernel
theorem dX10_step_156 : decode cX10_step 156 = .ok (.iconst 2, 1) := by decide +kernel
theorem dX10_step_157 : decode cX10_step 157 = .ok (.putfield 108, 3) := by decide +kernel
theorem dX10_step_160 : decode cX10_step 160 = .ok (.aload_n 0, 1) := by decide +kernel
theorem dX10_step_161 : decode cX10_step 161 = .ok (.invokevirtual 115, 3) := by decide +kernel
theorem dX10_step_164 : decode cX10_step 164 = .ok (.ifCond .eq 56, 3) := by decide +kernel
theorem dX10_step_167 : decode cX10_step 167 = .ok (.aload_n 0, 1) := by decide +kernel
theorem dX10_step_168 : decode cX10_step 168 = .ok (.aload_n 0, 1) := by decide +kernel
theorem dX10_step_169 : decode cX10_step 169 = .ok (.getfield 105, 3) := by decide +kernel
theorem dX10_step_172 : decode cX10_step 172 = .ok (.bipush 99, 2) := by decide +kernel
theorem dX10_step_174 : decode cX10_step 174 = .ok (.if_icmp .le 10, 3) := by decide +kernel
theorem dX10_step_177 : decode cX10_step 177 = .ok (.aload_n 0, 1) := by decide +kernel
theorem dX10_step_178 : decode cX10_step 178 = .ok (.getfield 105, 3) := by decide +kernel
theorem dX10_step_181 : decode cX10_step 181 = .ok (.goto 23, 3) := by decide +kernel
theorem dX10_step_184 : decode cX10_step 184 = .ok (.bipush 10, 2) := by decide +kernel
theorem dX10_step_186 : decode cX10_step 186 = .ok (.aload_n 0, 1) := by decide +kernel
theorem dX10_step_187 : decode cX10_step 187 = .ok (.getfield 105, 3) := by decide +kernel
theorem dX10_step_190 : decode cX10_step 190 = .ok (.imul, 1) := by decide +kernel
theorem dX10_step_191 : decode cX10_step 191 = .ok (.aload_n 0, 1) := by decide +kernel
theorem dX10_step_192 : decode cX10_step 192 = .ok (.getfield 48, 3) := by decide +kernel
theorem dX10_step_195 : decode cX10_step 195 = .ok (.aload_n 0, 1) := by decide +kernel
theorem dX10_step_196 : decode cX10_step 196 = .ok (.getfield 88, 3) := by decide +kernel
theorem dX10_step_199 : decode cX10_step 199 = .ok (.iaload, 1) := by decide +kernel
theorem dX10_step_200 : decode cX10_step 200 = .ok (.iadd, 1) := by decide +kernel
theorem dX10_step_201 : decode cX10_step 201 = .ok (.bipush 48, 2) := by decide +kernel
theorem dX10_step_203 : decode cX10_step 203 = .ok (.isub, 1) := by decide +kernel
theorem dX10_step_204 : decode cX10_step 204 = .ok (.putfield 105, 3) := by decide +kernel
theorem dX10_step_207 : decode cX10_step 207 = .ok (.aload_n 0, 1) := by decide +kernel
theorem dX10_step_208 : decode cX10_step 208 = .ok (.dup, 1) := by decide +kernel
theorem dX10_step_209 : decode cX10_step 209 = .ok (.getfield 88, 3) := by decide +kernel
theorem dX10_step_212 : decode cX10_step 212 = .ok (.iconst 1, 1) := by decide +kernel
theorem dX10_step_213 : decode cX10_step 213 = .ok (.iadd, 1) := by decide +kernel
theorem dX10_step_214 : decode cX10_step 214 = .ok (.putfield 88, 3) := by decide +kernel
theorem dX10_step_217 : decode cX10_step 217 = .ok (.goto (-57), 3) := by decide +kernel
theorem dX10_step_220 : decode cX10_step 220 = .ok (.aload_n 0, 1) := by decide +kernel
theorem dX10_step_221 : decode cX10_step 221 = .ok (.aload_n 0, 1) := by decide +kernel
theorem dX10_step_222 : decode cX10_step 222 = .ok (.getfield 88, 3) := by decide +kernel
theorem dX10_step_225 : decode cX10_step 225 = .ok (.aload_n 0, 1) := by decide +kernel
theorem dX10_step_226 : decode cX10_step 226 = .ok (.getfield 99, 3) := by decide +kernel
theorem dX10_step_229 : decode cX10_step 229 = .ok (.isub, 1) := by decide +kernel
theorem dX10_step_230 : decode cX10_step 230 = .ok (.iconst 1, 1) := by decide +kernel
theorem dX10_step_231 : decode cX10_step 231 = .ok (.if_icmp .le 23, 3) := by decide +kernel
theorem dX10_step_234 : decode cX10_step 234 = .ok (.aload_n 0, 1) := by decide +kernel
theorem dX10_step_235 : decode cX10_step 235 = .ok (.getfield 48, 3) := by decide +kernel
theorem dX10_step_238 : decode cX10_step 238 = .ok (.aload_n 0, 1) := by decide +kernel
theorem dX10_step_239 : decode cX10_step 239 = .ok (.getfield 99, 3) := by decide +kernel
theorem dX10_step_242 : decode cX10_step 242 = .ok (.iaload, 1) := by decide +kernel
theorem dX10_step_243 : decode cX10_step 243 = .ok (.bipush 48, 2) := by decide +kernel
theorem dX10_step_245 : decode cX10_step 245 = .ok (.if_icmp .ne 9, 3) := by decide +kernel
theorem dX10_step_248 : decode cX10_step 248 = .ok (.sipush 1000, 3) := by decide +kernel
theorem dX10_step_251 : decode cX10_step 251 = .ok (.goto 7, 3) := by decide +kernel
theorem dX10_step_254 : decode cX10_step 254 = .ok (.aload_n 0, 1) := by decide +kernel
theorem dX10_step_255 : decode cX10_step 255 = .ok (.getfield 105, 3) := by decide +kernel
theorem dX10_step_258 : decode cX10_step 258 = .ok (.putfield 105, 3) := by decide +kernel
theorem dX10_step_261 : decode cX10_step 261 = .ok (.goto 36, 3) := by decide +kernel
theorem dX10_step_264 : decode cX10_step 264 = .ok (.aload_n 0, 1) := by decide +kernel
theorem dX10_step_265 : decode cX10_step 265 = .ok (.aload_n 0, 1) := by decide +kernel
theorem dX10_step_266 : decode cX10_step 266 = .ok (.getfield 48, 3) := by decide +kernel
theorem dX10_step_269 : decode cX10_step 269 = .ok (.aload_n 0, 1) := by decide +kernel
theorem dX10_step_270 : decode cX10_step 270 = .ok (.getfield 88, 3) := by decide +kernel
theorem dX10_step_273 : decode cX10_step 273 = .ok (.iaload, 1) := by decide +kernel
theorem dX10_step_274 : decode cX10_step 274 = .ok (.bipush 59, 2) := by decide +kernel
theorem dX10_step_276 : decode cX10_step 276 = .ok (.if_icmp .ne 7, 3) := by decide +kernel
theorem dX10_step_279 : decode cX10_step 279 = .ok (.iconst 3, 1) := by decide +kernel
theorem dX10_step_280 : decode cX10_step 280 = .ok (.goto 4, 3) := by decide +kernel
theorem dX10_step_283 : decode cX10_step 283 = .ok (.iconst 4, 1) := by decide +kernel
theorem dX10_step_284 : decode cX10_step 284 = .ok (.putfield 108, 3) := by decide +kernel
theorem dX10_step_287 : decode cX10_step 287 = .ok (.aload_n 0, 1) := by decide +kernel
theorem dX10_step_288 : decode cX10_step 288 = .ok (.dup, 1) := by decide +kernel
theorem dX10_step_289 : decode cX10_step 289 = .ok (.getfield 88, 3) := by decide +kernel
theorem dX10_step_292 : decode cX10_step 292 = .ok (.iconst 1, 1) := by decide +kernel
theorem dX10_step_293 : decode cX10_step 293 = .ok (.iadd, 1) := by decide +kernel
theorem dX10_step_294 : decode cX10_step 294 = .ok (.putfield 88, 3) := by decide +kernel
theorem dX10_step_297 : decode cX10_step 297 = .ok (.return_, 1) := by decide +kernel
theorem dX10_number_0 : decode cX10_number 0 = .ok (.aload_n 0, 1) := by decide +kernel
theorem dX10_number_1 : decode cX10_number 1 = .ok (.invokevirtual 118, 3) := by decide +kernel
theorem dX10_number_4 : decode cX10_number 4 = .ok (.aload_n 0, 1) := by decide +kernel
theorem dX10_number_5 : decode cX10_number 5 = .ok (.getfield 108, 3) := by decide +kernel
theorem dX10_number_8 : decode cX10_number 8 = .ok (.iconst 2, 1) := by decide +kernel
theorem dX10_number_9 : decode cX10_number 9 = .ok (.if_icmp .ne 22, 3) := by decide +kernel
theorem dX10_number_12 : decode cX10_number 12 = .ok (.aload_n 0, 1) := by decide +kernel
theorem dX10_number_13 : decode cX10_number 13 = .ok (.getfield 105, 3) := by decide +kernel
theorem dX10_number_16 : decode cX10_number 16 = .ok (.i2l, 1) := by decide +kernel
theorem dX10_number_17 : decode cX10_number 17 = .ok (.iload_n 1, 1) := by decide +kernel
theorem dX10_number_18 : decode cX10_number 18 = .ok (.i2l, 1) := by decide +kernel
theorem dX10_number_19 : decode cX10_number 19 = .ok (.iload_n 2, 1) := by decide +kernel
theorem dX10_number_20 : decode cX10_number 20 = .ok (.i2l, 1) := by decide +kernel
theorem dX10_number_21 : decode cX10_number 21 = .ok (.invokestatic 81, 3) := by decide +kernel
theorem dX10_number_24 : decode cX10_number 24 = .ok (.ifCond .eq 7, 3) := by decide +kernel
theorem dX10_number_27 : decode cX10_number 27 = .ok (.iconst 1, 1) := by decide +kernel
theorem dX10_number_28 : decode cX10_number 28 = .ok (.goto 4, 3) := by decide +kernel
theorem dX10_number_31 : decode cX10_number 31 = .ok (.iconst 0, 1) := by decide +kernel
theorem dX10_number_32 : decode cX10_number 32 = .ok (.ireturn, 1) := by decide +kernel
theorem dX10_readsWindow_0 : decode cX10_readsWindow 0 = .ok (.aload_n 0, 1) := by decide +kernel
theorem dX10_readsWindow_1 : decode cX10_readsWindow 1 = .ok (.iconst 1, 1) := by decide +kernel
theorem dX10_readsWindow_2 : decode cX10_readsWindow 2 = .ok (.iconst 5, 1) := by decide +kernel
theorem dX10_readsWindow_3 : decode cX10_readsWindow 3 = .ok (.invokevirtual 121, 3) := by decide +kernel
theorem dX10_readsWindow_6 : decode cX10_readsWindow 6 = .ok (.ifCond .ne 5, 3) := by decide +kernel
theorem dX10_readsWindow_9 : decode cX10_readsWindow 9 = .ok (.iconst 0, 1) := by decide +kernel
theorem dX10_readsWindow_10 : decode cX10_readsWindow 10 = .ok (.ireturn, 1) := by decide +kernel
theorem dX10_readsWindow_11 : decode cX10_readsWindow 11 = .ok (.aload_n 0, 1) := by decide +kernel
theorem dX10_readsWindow_12 : decode cX10_readsWindow 12 = .ok (.aload_n 0, 1) := by decide +kernel
theorem dX10_readsWindow_13 : decode cX10_readsWindow 13 = .ok (.getfield 105, 3) := by decide +kernel
theorem dX10_readsWindow_16 : decode cX10_readsWindow 16 = .ok (.putfield 125, 3) := by decide +kernel
theorem dX10_readsWindow_19 : decode cX10_readsWindow 19 = .ok (.aload_n 0, 1) := by decide +kernel
theorem dX10_readsWindow_20 : decode cX10_readsWindow 20 = .ok (.iconst 1, 1) := by decide +kernel
theorem dX10_readsWindow_21 : decode cX10_readsWindow 21 = .ok (.iconst 4, 1) := by decide +kernel
theorem dX10_readsWindow_22 : decode cX10_readsWindow 22 = .ok (.invokevirtual 121, 3) := by decide +kernel
theorem dX10_readsWindow_25 : decode cX10_readsWindow 25 = .ok (.ifCond .ne 5, 3) := by decide +kernel
theorem dX10_readsWindow_28 : decode cX10_readsWindow 28 = .ok (.iconst 0, 1) := by decide +kernel
theorem dX10_readsWindow_29 : decode cX10_readsWindow 29 = .ok (.ireturn, 1) := by decide +kernel
theorem dX10_readsWindow_30 : decode cX10_readsWindow 30 = .ok (.aload_n 0, 1) := by decide +kernel
theorem dX10_readsWindow_31 : decode cX10_readsWindow 31 = .ok (.aload_n 0, 1) := by decide +kernel
theorem dX10_readsWindow_32 : decode cX10_readsWindow 32 = .ok (.getfield 105, 3) := by decide +kernel
theorem dX10_readsWindow_35 : decode cX10_readsWindow 35 = .ok (.putfield 128, 3) := by decide +kernel
theorem dX10_readsWindow_38 : decode cX10_readsWindow 38 = .ok (.iconst 1, 1) := by decide +kernel
theorem dX10_readsWindow_39 : decode cX10_readsWindow 39 = .ok (.ireturn, 1) := by decide +kernel
theorem dX10_readsPane_0 : decode cX10_readsPane 0 = .ok (.aload_n 0, 1) := by decide +kernel
theorem dX10_readsPane_1 : decode cX10_readsPane 1 = .ok (.iconst 0, 1) := by decide +kernel
theorem dX10_readsPane_2 : decode cX10_readsPane 2 = .ok (.aload_n 0, 1) := by decide +kernel
theorem dX10_readsPane_3 : decode cX10_readsPane 3 = .ok (.getfield 125, 3) := by decide +kernel
theorem dX10_readsPane_6 : decode cX10_readsPane 6 = .ok (.iconst 1, 1) := by decide +kernel
theorem dX10_readsPane_7 : decode cX10_readsPane 7 = .ok (.isub, 1) := by decide +kernel
theorem dX10_readsPane_8 : decode cX10_readsPane 8 = .ok (.invokevirtual 121, 3) := by decide +kernel
theorem dX10_readsPane_11 : decode cX10_readsPane 11 = .ok (.ifCond .ne 5, 3) := by decide +kernel
theorem dX10_readsPane_14 : decode cX10_readsPane 14 = .ok (.iconst 0, 1) := by decide +kernel
theorem dX10_readsPane_15 : decode cX10_readsPane 15 = .ok (.ireturn, 1) := by decide +kernel
theorem dX10_readsPane_16 : decode cX10_readsPane 16 = .ok (.aload_n 0, 1) := by decide +kernel
theorem dX10_readsPane_17 : decode cX10_readsPane 17 = .ok (.getfield 105, 3) := by decide +kernel
theorem dX10_readsPane_20 : decode cX10_readsPane 20 = .ok (.istore_n 1, 1) := by decide +kernel
theorem dX10_readsPane_21 : decode cX10_readsPane 21 = .ok (.aload_n 0, 1) := by decide +kernel
theorem dX10_readsPane_22 : decode cX10_readsPane 22 = .ok (.iconst 0, 1) := by decide +kernel
theorem dX10_readsPane_23 : decode cX10_readsPane 23 = .ok (.aload_n 0, 1) := by decide +kernel
theorem dX10_readsPane_24 : decode cX10_readsPane 24 = .ok (.getfield 128, 3) := by decide +kernel
theorem dX10_readsPane_27 : decode cX10_readsPane 27 = .ok (.iconst 1, 1) := by decide +kernel
theorem dX10_readsPane_28 : decode cX10_readsPane 28 = .ok (.isub, 1) := by decide +kernel
theorem dX10_readsPane_29 : decode cX10_readsPane 29 = .ok (.invokevirtual 121, 3) := by decide +kernel
theorem dX10_readsPane_32 : decode cX10_readsPane 32 = .ok (.ifCond .ne 5, 3) := by decide +kernel
theorem dX10_readsPane_35 : decode cX10_readsPane 35 = .ok (.iconst 0, 1) := by decide +kernel
theorem dX10_readsPane_36 : decode cX10_readsPane 36 = .ok (.ireturn, 1) := by decide +kernel
theorem dX10_readsPane_37 : decode cX10_readsPane 37 = .ok (.aload_n 0, 1) := by decide +kernel
theorem dX10_readsPane_38 : decode cX10_readsPane 38 = .ok (.getfield 105, 3) := by decide +kernel
theorem dX10_readsPane_41 : decode cX10_readsPane 41 = .ok (.istore_n 2, 1) := by decide +kernel
theorem dX10_readsPane_42 : decode cX10_readsPane 42 = .ok (.aload_n 0, 1) := by decide +kernel
theorem dX10_readsPane_43 : decode cX10_readsPane 43 = .ok (.iconst 0, 1) := by decide +kernel
theorem dX10_readsPane_44 : decode cX10_readsPane 44 = .ok (.bipush 7, 2) := by decide +kernel
theorem dX10_readsPane_46 : decode cX10_readsPane 46 = .ok (.invokevirtual 121, 3) := by decide +kernel
theorem dX10_readsPane_49 : decode cX10_readsPane 49 = .ok (.ifCond .ne 5, 3) := by decide +kernel
theorem dX10_readsPane_52 : decode cX10_readsPane 52 = .ok (.iconst 0, 1) := by decide +kernel
theorem dX10_readsPane_53 : decode cX10_readsPane 53 = .ok (.ireturn, 1) := by decide +kernel
theorem dX10_readsPane_54 : decode cX10_readsPane 54 = .ok (.aload_n 0, 1) := by decide +kernel
theorem dX10_readsPane_55 : decode cX10_readsPane 55 = .ok (.getfield 51, 3) := by decide +kernel
theorem dX10_readsPane_58 : decode cX10_readsPane 58 = .ok (.iconst 4, 1) := by decide +kernel
theorem dX10_readsPane_59 : decode cX10_readsPane 59 = .ok (.iload_n 1, 1) := by decide +kernel
theorem dX10_readsPane_60 : decode cX10_readsPane 60 = .ok (.imul, 1) := by decide +kernel
theorem dX10_readsPane_61 : decode cX10_readsPane 61 = .ok (.iload_n 2, 1) := by decide +kernel
theorem dX10_readsPane_62 : decode cX10_readsPane 62 = .ok (.iadd, 1) := by decide +kernel
theorem dX10_readsPane_63 : decode cX10_readsPane 63 = .ok (.aload_n 0, 1) := by decide +kernel
theorem dX10_readsPane_64 : decode cX10_readsPane 64 = .ok (.getfield 105, 3) := by decide +kernel
theorem dX10_readsPane_67 : decode cX10_readsPane 67 = .ok (.iastore, 1) := by decide +kernel
theorem dX10_readsPane_68 : decode cX10_readsPane 68 = .ok (.iconst 1, 1) := by decide +kernel
theorem dX10_readsPane_69 : decode cX10_readsPane 69 = .ok (.ireturn, 1) := by decide +kernel
theorem dX10_readsSheet_0 : decode cX10_readsSheet 0 = .ok (.aload_n 0, 1) := by decide +kernel
theorem dX10_readsSheet_1 : decode cX10_readsSheet 1 = .ok (.getfield 131, 3) := by decide +kernel
theorem dX10_readsSheet_4 : decode cX10_readsSheet 4 = .ok (.bipush 8, 2) := by decide +kernel
theorem dX10_readsSheet_6 : decode cX10_readsSheet 6 = .ok (.if_icmp .eq 13, 3) := by decide +kernel
theorem dX10_readsSheet_9 : decode cX10_readsSheet 9 = .ok (.aload_n 0, 1) := by decide +kernel
theorem dX10_readsSheet_10 : decode cX10_readsSheet 10 = .ok (.iconst 0, 1) := by decide +kernel
theorem dX10_readsSheet_11 : decode cX10_readsSheet 11 = .ok (.bipush 7, 2) := by decide +kernel
theorem dX10_readsSheet_13 : decode cX10_readsSheet 13 = .ok (.invokevirtual 121, 3) := by decide +kernel
theorem dX10_readsSheet_16 : decode cX10_readsSheet 16 = .ok (.ifCond .ne 5, 3) := by decide +kernel
theorem dX10_readsSheet_19 : decode cX10_readsSheet 19 = .ok (.iconst 0, 1) := by decide +kernel
theorem dX10_readsSheet_20 : decode cX10_readsSheet 20 = .ok (.ireturn, 1) := by decide +kernel
theorem dX10_readsSheet_21 : decode cX10_readsSheet 21 = .ok (.aload_n 0, 1) := by decide +kernel
theorem dX10_readsSheet_22 : decode cX10_readsSheet 22 = .ok (.getfield 54, 3) := by decide +kernel
theorem dX10_readsSheet_25 : decode cX10_readsSheet 25 = .ok (.aload_n 0, 1) := by decide +kernel
theorem dX10_readsSheet_26 : decode cX10_readsSheet 26 = .ok (.getfield 131, 3) := by decide +kernel
theorem dX10_readsSheet_29 : decode cX10_readsSheet 29 = .ok (.aload_n 0, 1) := by decide +kernel
theorem dX10_readsSheet_30 : decode cX10_readsSheet 30 = .ok (.getfield 105, 3) := by decide +kernel
theorem dX10_readsSheet_33 : decode cX10_readsSheet 33 = .ok (.iastore, 1) := by decide +kernel
theorem dX10_readsSheet_34 : decode cX10_readsSheet 34 = .ok (.aload_n 0, 1) := by decide +kernel
theorem dX10_readsSheet_35 : decode cX10_readsSheet 35 = .ok (.dup, 1) := by decide +kernel
theorem dX10_readsSheet_36 : decode cX10_readsSheet 36 = .ok (.getfield 131, 3) := by decide +kernel
theorem dX10_readsSheet_39 : decode cX10_readsSheet 39 = .ok (.iconst 1, 1) := by decide +kernel
theorem dX10_readsSheet_40 : decode cX10_readsSheet 40 = .ok (.iadd, 1) := by decide +kernel
theorem dX10_readsSheet_41 : decode cX10_readsSheet 41 = .ok (.putfield 131, 3) := by decide +kernel
theorem dX10_readsSheet_44 : decode cX10_readsSheet 44 = .ok (.iconst 1, 1) := by decide +kernel
theorem dX10_readsSheet_45 : decode cX10_readsSheet 45 = .ok (.ireturn, 1) := by decide +kernel
theorem dX10_readsMirror_0 : decode cX10_readsMirror 0 = .ok (.aload_n 0, 1) := by decide +kernel
theorem dX10_readsMirror_1 : decode cX10_readsMirror 1 = .ok (.getfield 134, 3) := by decide +kernel
theorem dX10_readsMirror_4 : decode cX10_readsMirror 4 = .ok (.bipush (-9), 2) := by decide +kernel
theorem dX10_readsMirror_6 : decode cX10_readsMirror 6 = .ok (.if_icmp .ne 13, 3) := by decide +kernel
theorem dX10_readsMirror_9 : decode cX10_readsMirror 9 = .ok (.aload_n 0, 1) := by decide +kernel
theorem dX10_readsMirror_10 : decode cX10_readsMirror 10 = .ok (.iconst 1, 1) := by decide +kernel
theorem dX10_readsMirror_11 : decode cX10_readsMirror 11 = .ok (.bipush 12, 2) := by decide +kernel
theorem dX10_readsMirror_13 : decode cX10_readsMirror 13 = .ok (.invokevirtual 121, 3) := by decide +kernel
theorem dX10_readsMirror_16 : decode cX10_readsMirror 16 = .ok (.ifCond .ne 5, 3) := by decide +kernel
theorem dX10_readsMirror_19 : decode cX10_readsMirror 19 = .ok (.iconst 0, 1) := by decide +kernel
theorem dX10_readsMirror_20 : decode cX10_readsMirror 20 = .ok (.ireturn, 1) := by decide +kernel
theorem dX10_readsMirror_21 : decode cX10_readsMirror 21 = .ok (.aload_n 0, 1) := by decide +kernel
theorem dX10_readsMirror_22 : decode cX10_readsMirror 22 = .ok (.aload_n 0, 1) := by decide +kernel
theorem dX10_readsMirror_23 : decode cX10_readsMirror 23 = .ok (.getfield 105, 3) := by decide +kernel
theorem dX10_readsMirror_26 : decode cX10_readsMirror 26 = .ok (.putfield 134, 3) := by decide +kernel
theorem dX10_readsMirror_29 : decode cX10_readsMirror 29 = .ok (.iconst 1, 1) := by decide +kernel
theorem dX10_readsMirror_30 : decode cX10_readsMirror 30 = .ok (.ireturn, 1) := by decide +kernel
theorem dX10_readsSeason_0 : decode cX10_readsSeason 0 = .ok (.aload_n 0, 1) := by decide +kernel
theorem dX10_readsSeason_1 : decode cX10_readsSeason 1 = .ok (.getfield 137, 3) := by decide +kernel
theorem dX10_readsSeason_4 : decode cX10_readsSeason 4 = .ok (.bipush (-9), 2) := by decide +kernel
theorem dX10_readsSeason_6 : decode cX10_readsSeason 6 = .ok (.if_icmp .ne 12, 3) := by decide +kernel
theorem dX10_readsSeason_9 : decode cX10_readsSeason 9 = .ok (.aload_n 0, 1) := by decide +kernel
theorem dX10_readsSeason_10 : decode cX10_readsSeason 10 = .ok (.iconst 0, 1) := by decide +kernel
theorem dX10_readsSeason_11 : decode cX10_readsSeason 11 = .ok (.iconst 3, 1) := by decide +kernel
theorem dX10_readsSeason_12 : decode cX10_readsSeason 12 = .ok (.invokevirtual 121, 3) := by decide +kernel
theorem dX10_readsSeason_15 : decode cX10_readsSeason 15 = .ok (.ifCond .ne 5, 3) := by decide +kernel
theorem dX10_readsSeason_18 : decode cX10_readsSeason 18 = .ok (.iconst 0, 1) := by decide +kernel
theorem dX10_readsSeason_19 : decode cX10_readsSeason 19 = .ok (.ireturn, 1) := by decide +kernel
theorem dX10_readsSeason_20 : decode cX10_readsSeason 20 = .ok (.aload_n 0, 1) := by decide +kernel
theorem dX10_readsSeason_21 : decode cX10_readsSeason 21 = .ok (.aload_n 0, 1) := by decide +kernel
theorem dX10_readsSeason_22 : decode cX10_readsSeason 22 = .ok (.getfield 105, 3) := by decide +kernel
theorem dX10_readsSeason_25 : decode cX10_readsSeason 25 = .ok (.putfield 137, 3) := by decide +kernel
theorem dX10_readsSeason_28 : decode cX10_readsSeason 28 = .ok (.iconst 1, 1) := by decide +kernel
theorem dX10_readsSeason_29 : decode cX10_readsSeason 29 = .ok (.ireturn, 1) := by decide +kernel
theorem dX10_readsItem_0 : decode cX10_readsItem 0 = .ok (.aload_n 0, 1) := by decide +kernel
theorem dX10_readsItem_1 : decode cX10_readsItem 1 = .ok (.getfield 102, 3) := by decide +kernel
theorem dX10_readsItem_4 : decode cX10_readsItem 4 = .ok (.lookupswitch 89 #[(103, 52), (109, 79), (112, 69), (115, 74), (121, 84)], 52) := by decide +kernel
theorem dX10_readsItem_56 : decode cX10_readsItem 56 = .ok (.iload_n 1, 1) := by decide +kernel
theorem dX10_readsItem_57 : decode cX10_readsItem 57 = .ok (.ifCond .eq 14, 3) := by decide +kernel
theorem dX10_readsItem_60 : decode cX10_readsItem 60 = .ok (.aload_n 0, 1) := by decide +kernel
theorem dX10_readsItem_61 : decode cX10_readsItem 61 = .ok (.invokevirtual 140, 3) := by decide +kernel
theorem dX10_readsItem_64 : decode cX10_readsItem 64 = .ok (.ifCond .eq 7, 3) := by decide +kernel
theorem dX10_readsItem_67 : decode cX10_readsItem 67 = .ok (.iconst 1, 1) := by decide +kernel
theorem dX10_readsItem_68 : decode cX10_readsItem 68 = .ok (.goto 4, 3) := by decide +kernel
theorem dX10_readsItem_71 : decode cX10_readsItem 71 = .ok (.iconst 0, 1) := by decide +kernel
theorem dX10_readsItem_72 : decode cX10_readsItem 72 = .ok (.ireturn, 1) := by decide +kernel
theorem dX10_readsItem_73 : decode cX10_readsItem 73 = .ok (.aload_n 0, 1) := by decide +kernel
theorem dX10_readsItem_74 : decode cX10_readsItem 74 = .ok (.invokevirtual 143, 3) := by decide +kernel
theorem dX10_readsItem_77 : decode cX10_readsItem 77 = .ok (.ireturn, 1) := by decide +kernel
theorem dX10_readsItem_78 : decode cX10_readsItem 78 = .ok (.aload_n 0, 1) := by decide +kernel
theorem dX10_readsItem_79 : decode cX10_readsItem 79 = .ok (.invokevirtual 146, 3) := by decide +kernel
theorem dX10_readsItem_82 : decode cX10_readsItem 82 = .ok (.ireturn, 1) := by decide +kernel
theorem dX10_readsItem_83 : decode cX10_readsItem 83 = .ok (.aload_n 0, 1) := by decide +kernel
theorem dX10_readsItem_84 : decode cX10_readsItem 84 = .ok (.invokevirtual 149, 3) := by decide +kernel
theorem dX10_readsItem_87 : decode cX10_readsItem 87 = .ok (.ireturn, 1) := by decide +kernel
theorem dX10_readsItem_88 : decode cX10_readsItem 88 = .ok (.aload_n 0, 1) := by decide +kernel
theorem dX10_readsItem_89 : decode cX10_readsItem 89 = .ok (.invokevirtual 152, 3) := by decide +kernel
theorem dX10_readsItem_92 : decode cX10_readsItem 92 = .ok (.ireturn, 1) := by decide +kernel
theorem dX10_readsItem_93 : decode cX10_readsItem 93 = .ok (.iconst 0, 1) := by decide +kernel
theorem dX10_readsItem_94 : decode cX10_readsItem 94 = .ok (.ireturn, 1) := by decide +kernel
theorem dX10_window_0 : decode cX10_window 0 = .ok (.aload_n 0, 1) := by decide +kernel
theorem dX10_window_1 : decode cX10_window 1 = .ok (.iconst 5, 1) := by decide +kernel
theorem dX10_window_2 : decode cX10_window 2 = .ok (.putfield 125, 3) := by decide +kernel
theorem dX10_window_5 : decode cX10_window 5 = .ok (.aload_n 0, 1) := by decide +kernel
theorem dX10_window_6 : decode cX10_window 6 = .ok (.iconst 4, 1) := by decide +kernel
theorem dX10_window_7 : decode cX10_window 7 = .ok (.putfield 128, 3) := by decide +kernel
theorem dX10_window_10 : decode cX10_window 10 = .ok (.iconst 0, 1) := by decide +kernel
theorem dX10_window_11 : decode cX10_window 11 = .ok (.istore_n 1, 1) := by decide +kernel
theorem dX10_window_12 : decode cX10_window 12 = .ok (.iload_n 1, 1) := by decide +kernel
theorem dX10_window_13 : decode cX10_window 13 = .ok (.bipush 20, 2) := by decide +kernel
theorem dX10_window_15 : decode cX10_window 15 = .ok (.if_icmp .ge 17, 3) := by decide +kernel
theorem dX10_window_18 : decode cX10_window 18 = .ok (.aload_n 0, 1) := by decide +kernel
theorem dX10_window_19 : decode cX10_window 19 = .ok (.getfield 51, 3) := by decide +kernel
theorem dX10_window_22 : decode cX10_window 22 = .ok (.iload_n 1, 1) := by decide +kernel
theorem dX10_window_23 : decode cX10_window 23 = .ok (.bipush 7, 2) := by decide +kernel
theorem dX10_window_25 : decode cX10_window 25 = .ok (.iastore, 1) := by decide +kernel
theorem dX10_window_26 : decode cX10_window 26 = .ok (.iinc 1 1, 3) := by decide +kernel
theorem dX10_window_29 : decode cX10_window 29 = .ok (.goto (-17), 3) := by decide +kernel
theorem dX10_window_32 : decode cX10_window 32 = .ok (.aload_n 0, 1) := by decide +kernel
theorem dX10_window_33 : decode cX10_window 33 = .ok (.iconst 0, 1) := by decide +kernel
theorem dX10_window_34 : decode cX10_window 34 = .ok (.putfield 131, 3) := by decide +kernel
theorem dX10_window_37 : decode cX10_window 37 = .ok (.aload_n 0, 1) := by decide +kernel
theorem dX10_window_38 : decode cX10_window 38 = .ok (.bipush (-9), 2) := by decide +kernel
theorem dX10_window_40 : decode cX10_window 40 = .ok (.putfield 134, 3) := by decide +kernel
theorem dX10_window_43 : decode cX10_window 43 = .ok (.aload_n 0, 1) := by decide +kernel
theorem dX10_window_44 : decode cX10_window 44 = .ok (.bipush (-9), 2) := by decide +kernel
theorem dX10_window_46 : decode cX10_window 46 = .ok (.putfield 137, 3) := by decide +kernel
theorem dX10_window_49 : decode cX10_window 49 = .ok (.aload_n 0, 1) := by decide +kernel
theorem dX10_window_50 : decode cX10_window 50 = .ok (.iconst 0, 1) := by decide +kernel
theorem dX10_window_51 : decode cX10_window 51 = .ok (.putfield 88, 3) := by decide +kernel
theorem dX10_window_54 : decode cX10_window 54 = .ok (.iconst 0, 1) := by decide +kernel
theorem dX10_window_55 : decode cX10_window 55 = .ok (.istore_n 1, 1) := by decide +kernel
theorem dX10_window_56 : decode cX10_window 56 = .ok (.aload_n 0, 1) := by decide +kernel
theorem dX10_window_57 : decode cX10_window 57 = .ok (.invokevirtual 118, 3) := by decide +kernel
theorem dX10_window_60 : decode cX10_window 60 = .ok (.aload_n 0, 1) := by decide +kernel
theorem dX10_window_61 : decode cX10_window 61 = .ok (.getfield 108, 3) := by decide +kernel
theorem dX10_window_64 : decode cX10_window 64 = .ok (.ifCond .eq 65, 3) := by decide +kernel
theorem dX10_window_67 : decode cX10_window 67 = .ok (.aload_n 0, 1) := by decide +kernel
theorem dX10_window_68 : decode cX10_window 68 = .ok (.getfield 108, 3) := by decide +kernel
theorem dX10_window_71 : decode cX10_window 71 = .ok (.iconst 1, 1) := by decide +kernel
theorem dX10_window_72 : decode cX10_window 72 = .ok (.if_icmp .ne 19, 3) := by decide +kernel
theorem dX10_window_75 : decode cX10_window 75 = .ok (.aload_n 0, 1) := by decide +kernel
theorem dX10_window_76 : decode cX10_window 76 = .ok (.iload_n 1, 1) := by decide +kernel
theorem dX10_window_77 : decode cX10_window 77 = .ok (.ifCond .ne 7, 3) := by decide +kernel
theorem dX10_window_80 : decode cX10_window 80 = .ok (.iconst 1, 1) := by decide +kernel
theorem dX10_window_81 : decode cX10_window 81 = .ok (.goto 4, 3) := by decide +kernel
theorem dX10_window_84 : decode cX10_window 84 = .ok (.iconst 0, 1) := by decide +kernel
theorem dX10_window_85 : decode cX10_window 85 = .ok (.invokevirtual 155, 3) := by decide +kernel
theorem dX10_window_88 : decode cX10_window 88 = .ok (.ifCond .ne 11, 3) := by decide +kernel
theorem dX10_window_91 : decode cX10_window 91 = .ok (.bipush (-10), 2) := by decide +kernel
theorem dX10_window_93 : decode cX10_window 93 = .ok (.aload_n 0, 1) := by decide +kernel
theorem dX10_window_94 : decode cX10_window 94 = .ok (.getfield 99, 3) := by decide +kernel
theorem dX10_window_97 : decode cX10_window 97 = .ok (.isub, 1) := by decide +kernel
theorem dX10_window_98 : decode cX10_window 98 = .ok (.ireturn, 1) := by decide +kernel
theorem dX10_window_99 : decode cX10_window 99 = .ok (.aload_n 0, 1) := by decide +kernel
theorem dX10_window_100 : decode cX10_window 100 = .ok (.invokevirtual 118, 3) := by decide +kernel
theorem dX10_window_103 : decode cX10_window 103 = .ok (.aload_n 0, 1) := by decide +kernel
theorem dX10_window_104 : decode cX10_window 104 = .ok (.getfield 108, 3) := by decide +kernel
theorem dX10_window_107 : decode cX10_window 107 = .ok (.iconst 3, 1) := by decide +kernel
theorem dX10_window_108 : decode cX10_window 108 = .ok (.if_icmp .eq 11, 3) := by decide +kernel
theorem dX10_window_111 : decode cX10_window 111 = .ok (.bipush (-10), 2) := by decide +kernel
theorem dX10_window_113 : decode cX10_window 113 = .ok (.aload_n 0, 1) := by decide +kernel
theorem dX10_window_114 : decode cX10_window 114 = .ok (.getfield 99, 3) := by decide +kernel
theorem dX10_window_117 : decode cX10_window 117 = .ok (.isub, 1) := by decide +kernel
theorem dX10_window_118 : decode cX10_window 118 = .ok (.ireturn, 1) := by decide +kernel
theorem dX10_window_119 : decode cX10_window 119 = .ok (.iinc 1 1, 3) := by decide +kernel
theorem dX10_window_122 : decode cX10_window 122 = .ok (.aload_n 0, 1) := by decide +kernel
theorem dX10_window_123 : decode cX10_window 123 = .ok (.invokevirtual 118, 3) := by decide +kernel
theorem dX10_window_126 : decode cX10_window 126 = .ok (.goto (-66), 3) := by decide +kernel
theorem dX10_window_129 : decode cX10_window 129 = .ok (.aload_n 0, 1) := by decide +kernel
theorem dX10_window_130 : decode cX10_window 130 = .ok (.iconst 0, 1) := by decide +kernel
theorem dX10_window_131 : decode cX10_window 131 = .ok (.putfield 85, 3) := by decide +kernel
theorem dX10_window_134 : decode cX10_window 134 = .ok (.aload_n 0, 1) := by decide +kernel
theorem dX10_window_135 : decode cX10_window 135 = .ok (.aload_n 0, 1) := by decide +kernel
theorem dX10_window_136 : decode cX10_window 136 = .ok (.getfield 125, 3) := by decide +kernel
theorem dX10_window_139 : decode cX10_window 139 = .ok (.putfield 7, 3) := by decide +kernel
theorem dX10_window_142 : decode cX10_window 142 = .ok (.aload_n 0, 1) := by decide +kernel
theorem dX10_window_143 : decode cX10_window 143 = .ok (.aload_n 0, 1) := by decide +kernel
theorem dX10_window_144 : decode cX10_window 144 = .ok (.getfield 128, 3) := by decide +kernel
theorem dX10_window_147 : decode cX10_window 147 = .ok (.putfield 13, 3) := by decide +kernel
theorem dX10_window_150 : decode cX10_window 150 = .ok (.aload_n 0, 1) := by decide +kernel
theorem dX10_window_151 : decode cX10_window 151 = .ok (.aload_n 0, 1) := by decide +kernel
theorem dX10_window_152 : decode cX10_window 152 = .ok (.getfield 131, 3) := by decide +kernel
theorem dX10_window_155 : decode cX10_window 155 = .ok (.putfield 159, 3) := by decide +kernel
theorem dX10_window_158 : decode cX10_window 158 = .ok (.aload_n 0, 1) := by decide +kernel
theorem dX10_window_159 : decode cX10_window 159 = .ok (.getfield 51, 3) := by decide +kernel
theorem dX10_window_162 : decode cX10_window 162 = .ok (.iconst 0, 1) := by decide +kernel
theorem dX10_window_163 : decode cX10_window 163 = .ok (.aload_n 0, 1) := by decide +kernel
theorem dX10_window_164 : decode cX10_window 164 = .ok (.getfield 16, 3) := by decide +kernel
theorem dX10_window_167 : decode cX10_window 167 = .ok (.iconst 0, 1) := by decide +kernel
theorem dX10_window_168 : decode cX10_window 168 = .ok (.bipush 20, 2) := by decide +kernel
theorem dX10_window_170 : decode cX10_window 170 = .ok (.invokestatic 162, 3) := by decide +kernel
theorem dX10_window_173 : decode cX10_window 173 = .ok (.aload_n 0, 1) := by decide +kernel
theorem dX10_window_174 : decode cX10_window 174 = .ok (.getfield 54, 3) := by decide +kernel
theorem dX10_window_177 : decode cX10_window 177 = .ok (.iconst 0, 1) := by decide +kernel
theorem dX10_window_178 : decode cX10_window 178 = .ok (.aload_n 0, 1) := by decide +kernel
theorem dX10_window_179 : decode cX10_window 179 = .ok (.getfield 20, 3) := by decide +kernel
theorem dX10_window_182 : decode cX10_window 182 = .ok (.iconst 0, 1) := by decide +kernel
theorem dX10_window_183 : decode cX10_window 183 = .ok (.bipush 8, 2) := by decide +kernel
theorem dX10_window_185 : decode cX10_window 185 = .ok (.invokestatic 162, 3) := by decide +kernel
theorem dX10_window_188 : decode cX10_window 188 = .ok (.aload_n 0, 1) := by decide +kernel
theorem dX10_window_189 : decode cX10_window 189 = .ok (.aload_n 0, 1) := by decide +kernel
theorem dX10_window_190 : decode cX10_window 190 = .ok (.getfield 134, 3) := by decide +kernel
theorem dX10_window_193 : decode cX10_window 193 = .ok (.bipush (-9), 2) := by decide +kernel
theorem dX10_window_195 : decode cX10_window 195 = .ok (.if_icmp .ne 8, 3) := by decide +kernel
theorem dX10_window_198 : decode cX10_window 198 = .ok (.bipush 12, 2) := by decide +kernel
theorem dX10_window_200 : decode cX10_window 200 = .ok (.goto 7, 3) := by decide +kernel
theorem dX10_window_203 : decode cX10_window 203 = .ok (.aload_n 0, 1) := by decide +kernel
theorem dX10_window_204 : decode cX10_window 204 = .ok (.getfield 134, 3) := by decide +kernel
theorem dX10_window_207 : decode cX10_window 207 = .ok (.aload_n 0, 1) := by decide +kernel
theorem dX10_window_208 : decode cX10_window 208 = .ok (.getfield 137, 3) := by decide +kernel
theorem dX10_window_211 : decode cX10_window 211 = .ok (.bipush (-9), 2) := by decide +kernel
theorem dX10_window_213 : decode cX10_window 213 = .ok (.if_icmp .ne 7, 3) := by decide +kernel
theorem dX10_window_216 : decode cX10_window 216 = .ok (.iconst 0, 1) := by decide +kernel
theorem dX10_window_217 : decode cX10_window 217 = .ok (.goto 7, 3) := by decide +kernel
theorem dX10_window_220 : decode cX10_window 220 = .ok (.aload_n 0, 1) := by decide +kernel
theorem dX10_window_221 : decode cX10_window 221 = .ok (.getfield 137, 3) := by decide +kernel
theorem dX10_window_224 : decode cX10_window 224 = .ok (.invokevirtual 69, 3) := by decide +kernel
theorem dX10_window_227 : decode cX10_window 227 = .ok (.iload_n 1, 1) := by decide +kernel
theorem dX10_window_228 : decode cX10_window 228 = .ok (.ireturn, 1) := by decide +kernel
theorem dX10_isPane_0 : decode cX10_isPane 0 = .ok (.iload_n 1, 1) := by decide +kernel
theorem dX10_isPane_1 : decode cX10_isPane 1 = .ok (.i2l, 1) := by decide +kernel
theorem dX10_isPane_2 : decode cX10_isPane 2 = .ok (.lconst 0, 1) := by decide +kernel
theorem dX10_isPane_3 : decode cX10_isPane 3 = .ok (.aload_n 0, 1) := by decide +kernel
theorem dX10_isPane_4 : decode cX10_isPane 4 = .ok (.getfield 7, 3) := by decide +kernel
theorem dX10_isPane_7 : decode cX10_isPane 7 = .ok (.iconst 1, 1) := by decide +kernel
theorem dX10_isPane_8 : decode cX10_isPane 8 = .ok (.isub, 1) := by decide +kernel
theorem dX10_isPane_9 : decode cX10_isPane 9 = .ok (.i2l, 1) := by decide +kernel
theorem dX10_isPane_10 : decode cX10_isPane 10 = .ok (.invokestatic 81, 3) := by decide +kernel
theorem dX10_isPane_13 : decode cX10_isPane 13 = .ok (.ifCond .eq 23, 3) := by decide +kernel
theorem dX10_isPane_16 : decode cX10_isPane 16 = .ok (.iload_n 2, 1) := by decide +kernel
theorem dX10_isPane_17 : decode cX10_isPane 17 = .ok (.i2l, 1) := by decide +kernel
theorem dX10_isPane_18 : decode cX10_isPane 18 = .ok (.lconst 0, 1) := by decide +kernel
theorem dX10_isPane_19 : decode cX10_isPane 19 = .ok (.aload_n 0, 1) := by decide +kernel
theorem dX10_isPane_20 : decode cX10_isPane 20 = .ok (.getfield 13, 3) := by decide +kernel
theorem dX10_isPane_23 : decode cX10_isPane 23 = .ok (.iconst 1, 1) := by decide +kernel
theorem dX10_isPane_24 : decode cX10_isPane 24 = .ok (.isub, 1) := by decide +kernel
theorem dX10_isPane_25 : decode cX10_isPane 25 = .ok (.i2l, 1) := by decide +kernel
theorem dX10_isPane_26 : decode cX10_isPane 26 = .ok (.invokestatic 81, 3) := by decide +kernel
theorem dX10_isPane_29 : decode cX10_isPane 29 = .ok (.ifCond .eq 7, 3) := by decide +kernel
theorem dX10_isPane_32 : decode cX10_isPane 32 = .ok (.iconst 1, 1) := by decide +kernel
theorem dX10_isPane_33 : decode cX10_isPane 33 = .ok (.goto 4, 3) := by decide +kernel
theorem dX10_isPane_36 : decode cX10_isPane 36 = .ok (.iconst 0, 1) := by decide +kernel
theorem dX10_isPane_37 : decode cX10_isPane 37 = .ok (.ireturn, 1) := by decide +kernel
theorem dX10_isSheet_0 : decode cX10_isSheet 0 = .ok (.iload_n 1, 1) := by decide +kernel
theorem dX10_isSheet_1 : decode cX10_isSheet 1 = .ok (.i2l, 1) := by decide +kernel
theorem dX10_isSheet_2 : decode cX10_isSheet 2 = .ok (.lconst 0, 1) := by decide +kernel
theorem dX10_isSheet_3 : decode cX10_isSheet 3 = .ok (.aload_n 0, 1) := by decide +kernel
theorem dX10_isSheet_4 : decode cX10_isSheet 4 = .ok (.getfield 159, 3) := by decide +kernel
theorem dX10_isSheet_7 : decode cX10_isSheet 7 = .ok (.iconst 1, 1) := by decide +kernel
theorem dX10_isSheet_8 : decode cX10_isSheet 8 = .ok (.isub, 1) := by decide +kernel
theorem dX10_isSheet_9 : decode cX10_isSheet 9 = .ok (.i2l, 1) := by decide +kernel
theorem dX10_isSheet_10 : decode cX10_isSheet 10 = .ok (.invokestatic 81, 3) := by decide +kernel
theorem dX10_isSheet_13 : decode cX10_isSheet 13 = .ok (.ireturn, 1) := by decide +kernel
theorem dX10_isTile_0 : decode cX10_isTile 0 = .ok (.iload_n 0, 1) := by decide +kernel
theorem dX10_isTile_1 : decode cX10_isTile 1 = .ok (.i2l, 1) := by decide +kernel
theorem dX10_isTile_2 : decode cX10_isTile 2 = .ok (.lconst 0, 1) := by decide +kernel
theorem dX10_isTile_3 : decode cX10_isTile 3 = .ok (.ldc2_w 166, 3) := by decide +kernel
theorem dX10_isTile_6 : decode cX10_isTile 6 = .ok (.invokestatic 81, 3) := by decide +kernel
theorem dX10_isTile_9 : decode cX10_isTile 9 = .ok (.ifCond .eq 19, 3) := by decide +kernel
theorem dX10_isTile_12 : decode cX10_isTile 12 = .ok (.iload_n 1, 1) := by decide +kernel
theorem dX10_isTile_13 : decode cX10_isTile 13 = .ok (.i2l, 1) := by decide +kernel
theorem dX10_isTile_14 : decode cX10_isTile 14 = .ok (.lconst 0, 1) := by decide +kernel
theorem dX10_isTile_15 : decode cX10_isTile 15 = .ok (.ldc2_w 168, 3) := by decide +kernel
theorem dX10_isTile_18 : decode cX10_isTile 18 = .ok (.invokestatic 81, 3) := by decide +kernel
theorem dX10_isTile_21 : decode cX10_isTile 21 = .ok (.ifCond .eq 7, 3) := by decide +kernel
theorem dX10_isTile_24 : decode cX10_isTile 24 = .ok (.iconst 1, 1) := by decide +kernel
theorem dX10_isTile_25 : decode cX10_isTile 25 = .ok (.goto 4, 3) := by decide +kernel
theorem dX10_isTile_28 : decode cX10_isTile 28 = .ok (.iconst 0, 1) := by decide +kernel
theorem dX10_isTile_29 : decode cX10_isTile 29 = .ok (.ireturn, 1) := by decide +kernel
theorem dX10_isHour_0 : decode cX10_isHour 0 = .ok (.iload_n 0, 1) := by decide +kernel
theorem dX10_isHour_1 : decode cX10_isHour 1 = .ok (.i2l, 1) := by decide +kernel
theorem dX10_isHour_2 : decode cX10_isHour 2 = .ok (.lconst 0, 1) := by decide +kernel
theorem dX10_isHour_3 : decode cX10_isHour 3 = .ok (.ldc2_w 170, 3) := by decide +kernel
theorem dX10_isHour_6 : decode cX10_isHour 6 = .ok (.invokestatic 81, 3) := by decide +kernel
theorem dX10_isHour_9 : decode cX10_isHour 9 = .ok (.ireturn, 1) := by decide +kernel
theorem dX10_isColour_0 : decode cX10_isColour 0 = .ok (.iload_n 0, 1) := by decide +kernel
theorem dX10_isColour_1 : decode cX10_isColour 1 = .ok (.i2l, 1) := by decide +kernel
theorem dX10_isColour_2 : decode cX10_isColour 2 = .ok (.lconst 0, 1) := by decide +kernel
theorem dX10_isColour_3 : decode cX10_isColour 3 = .ok (.ldc2_w 170, 3) := by decide +kernel
theorem dX10_isColour_6 : decode cX10_isColour 6 = .ok (.invokestatic 81, 3) := by decide +kernel
theorem dX10_isColour_9 : decode cX10_isColour 9 = .ok (.ireturn, 1) := by decide +kernel
theorem dX10_sheetsAt_0 : decode cX10_sheetsAt 0 = .ok (.iconst 0, 1) := by decide +kernel
theorem dX10_sheetsAt_1 : decode cX10_sheetsAt 1 = .ok (.istore_n 3, 1) := by decide +kernel
theorem dX10_sheetsAt_2 : decode cX10_sheetsAt 2 = .ok (.iconst 0, 1) := by decide +kernel
theorem dX10_sheetsAt_3 : decode cX10_sheetsAt 3 = .ok (.istore 4, 2) := by decide +kernel
theorem dX10_sheetsAt_5 : decode cX10_sheetsAt 5 = .ok (.iload 4, 2) := by decide +kernel
theorem dX10_sheetsAt_7 : decode cX10_sheetsAt 7 = .ok (.aload_n 0, 1) := by decide +kernel
theorem dX10_sheetsAt_8 : decode cX10_sheetsAt 8 = .ok (.getfield 159, 3) := by decide +kernel
theorem dX10_sheetsAt_11 : decode cX10_sheetsAt 11 = .ok (.if_icmp .ge 30, 3) := by decide +kernel
theorem dX10_sheetsAt_14 : decode cX10_sheetsAt 14 = .ok (.iload_n 3, 1) := by decide +kernel
theorem dX10_sheetsAt_15 : decode cX10_sheetsAt 15 = .ok (.aload_n 1, 1) := by decide +kernel
theorem dX10_sheetsAt_16 : decode cX10_sheetsAt 16 = .ok (.iconst 0, 1) := by decide +kernel
theorem dX10_sheetsAt_17 : decode cX10_sheetsAt 17 = .ok (.iload 4, 2) := by decide +kernel
theorem dX10_sheetsAt_19 : decode cX10_sheetsAt 19 = .ok (.iadd, 1) := by decide +kernel
theorem dX10_sheetsAt_20 : decode cX10_sheetsAt 20 = .ok (.iaload, 1) := by decide +kernel
theorem dX10_sheetsAt_21 : decode cX10_sheetsAt 21 = .ok (.iload_n 2, 1) := by decide +kernel
theorem dX10_sheetsAt_22 : decode cX10_sheetsAt 22 = .ok (.if_icmp .ne 10, 3) := by decide +kernel
theorem dX10_sheetsAt_25 : decode cX10_sheetsAt 25 = .ok (.iconst 1, 1) := by decide +kernel
theorem dX10_sheetsAt_26 : decode cX10_sheetsAt 26 = .ok (.iload 4, 2) := by decide +kernel
theorem dX10_sheetsAt_28 : decode cX10_sheetsAt 28 = .ok (.ishl, 1) := by decide +kernel
theorem dX10_sheetsAt_29 : decode cX10_sheetsAt 29 = .ok (.goto 4, 3) := by decide +kernel
theorem dX10_sheetsAt_32 : decode cX10_sheetsAt 32 = .ok (.iconst 0, 1) := by decide +kernel
theorem dX10_sheetsAt_33 : decode cX10_sheetsAt 33 = .ok (.ior, 1) := by decide +kernel
theorem dX10_sheetsAt_34 : decode cX10_sheetsAt 34 = .ok (.istore_n 3, 1) := by decide +kernel
theorem dX10_sheetsAt_35 : decode cX10_sheetsAt 35 = .ok (.iinc 4 1, 3) := by decide +kernel
theorem dX10_sheetsAt_38 : decode cX10_sheetsAt 38 = .ok (.goto (-33), 3) := by decide +kernel
theorem dX10_sheetsAt_41 : decode cX10_sheetsAt 41 = .ok (.iload_n 3, 1) := by decide +kernel
theorem dX10_sheetsAt_42 : decode cX10_sheetsAt 42 = .ok (.ireturn, 1) := by decide +kernel
theorem dX10_through_0 : decode cX10_through 0 = .ok (.bipush 7, 2) := by decide +kernel
theorem dX10_through_2 : decode cX10_through 2 = .ok (.istore_n 2, 1) := by decide +kernel
theorem dX10_through_3 : decode cX10_through 3 = .ok (.iconst 0, 1) := by decide +kernel
theorem dX10_through_4 : decode cX10_through 4 = .ok (.istore_n 3, 1) := by decide +kernel
theorem dX10_through_5 : decode cX10_through 5 = .ok (.iload_n 3, 1) := by decide +kernel
theorem dX10_through_6 : decode cX10_through 6 = .ok (.aload_n 0, 1) := by decide +kernel
theorem dX10_through_7 : decode cX10_through 7 = .ok (.getfield 159, 3) := by decide +kernel
theorem dX10_through_10 : decode cX10_through 10 = .ok (.if_icmp .ge 31, 3) := by decide +kernel
theorem dX10_through_13 : decode cX10_through 13 = .ok (.iload_n 2, 1) := by decide +kernel
theorem dX10_through_14 : decode cX10_through 14 = .ok (.iload_n 1, 1) := by decide +kernel
theorem dX10_through_15 : decode cX10_through 15 = .ok (.iload_n 3, 1) := by decide +kernel
theorem dX10_through_16 : decode cX10_through 16 = .ok (.invokestatic 172, 3) := by decide +kernel
theorem dX10_through_19 : decode cX10_through 19 = .ok (.ifCond .eq 12, 3) := by decide +kernel
theorem dX10_through_22 : decode cX10_through 22 = .ok (.aload_n 0, 1) := by decide +kernel
theorem dX10_through_23 : decode cX10_through 23 = .ok (.getfield 20, 3) := by decide +kernel
theorem dX10_through_26 : decode cX10_through 26 = .ok (.iload_n 3, 1) := by decide +kernel
theorem dX10_through_27 : decode cX10_through 27 = .ok (.iaload, 1) := by decide +kernel
theorem dX10_through_28 : decode cX10_through 28 = .ok (.goto 5, 3) := by decide +kernel
theorem dX10_through_31 : decode cX10_through 31 = .ok (.bipush 7, 2) := by decide +kernel
theorem dX10_through_33 : decode cX10_through 33 = .ok (.iand, 1) := by decide +kernel
theorem dX10_through_34 : decode cX10_through 34 = .ok (.istore_n 2, 1) := by decide +kernel
theorem dX10_through_35 : decode cX10_through 35 = .ok (.iinc 3 1, 3) := by decide +kernel
theorem dX10_through_38 : decode cX10_through 38 = .ok (.goto (-33), 3) := by decide +kernel
theorem dX10_through_41 : decode cX10_through 41 = .ok (.iload_n 2, 1) := by decide +kernel
theorem dX10_through_42 : decode cX10_through 42 = .ok (.ireturn, 1) := by decide +kernel
theorem dX10_lets_0 : decode cX10_lets 0 = .ok (.aload_n 1, 1) := by decide +kernel
theorem dX10_lets_1 : decode cX10_lets 1 = .ok (.bipush 8, 2) := by decide +kernel
theorem dX10_lets_3 : decode cX10_lets 3 = .ok (.iaload, 1) := by decide +kernel
theorem dX10_lets_4 : decode cX10_lets 4 = .ok (.iload_n 2, 1) := by decide +kernel
theorem dX10_lets_5 : decode cX10_lets 5 = .ok (.invokestatic 172, 3) := by decide +kernel
theorem dX10_lets_8 : decode cX10_lets 8 = .ok (.ifCond .eq 8, 3) := by decide +kernel
theorem dX10_lets_11 : decode cX10_lets 11 = .ok (.bipush 7, 2) := by decide +kernel
theorem dX10_lets_13 : decode cX10_lets 13 = .ok (.goto 20, 3) := by decide +kernel
theorem dX10_lets_16 : decode cX10_lets 16 = .ok (.aload_n 0, 1) := by decide +kernel
theorem dX10_lets_17 : decode cX10_lets 17 = .ok (.getfield 16, 3) := by decide +kernel
theorem dX10_lets_20 : decode cX10_lets 20 = .ok (.iload_n 2, 1) := by decide +kernel
theorem dX10_lets_21 : decode cX10_lets 21 = .ok (.iaload, 1) := by decide +kernel
theorem dX10_lets_22 : decode cX10_lets 22 = .ok (.aload_n 0, 1) := by decide +kernel
theorem dX10_lets_23 : decode cX10_lets 23 = .ok (.aload_n 0, 1) := by decide +kernel
theorem dX10_lets_24 : decode cX10_lets 24 = .ok (.aload_n 1, 1) := by decide +kernel
theorem dX10_lets_25 : decode cX10_lets 25 = .ok (.iload_n 2, 1) := by decide +kernel
theorem dX10_lets_26 : decode cX10_lets 26 = .ok (.invokevirtual 175, 3) := by decide +kernel
theorem dX10_lets_29 : decode cX10_lets 29 = .ok (.invokevirtual 179, 3) := by decide +kernel
theorem dX10_lets_32 : decode cX10_lets 32 = .ok (.iand, 1) := by decide +kernel
theorem dX10_lets_33 : decode cX10_lets 33 = .ok (.ireturn, 1) := by decide +kernel
theorem dX10_paneAt_0 : decode cX10_paneAt 0 = .ok (.iload 5, 2) := by decide +kernel
theorem dX10_paneAt_2 : decode cX10_paneAt 2 = .ok (.ifCond .eq 16, 3) := by decide +kernel
theorem dX10_paneAt_5 : decode cX10_paneAt 5 = .ok (.iconst 2, 1) := by decide +kernel
theorem dX10_paneAt_6 : decode cX10_paneAt 6 = .ok (.aload_n 1, 1) := by decide +kernel
theorem dX10_paneAt_7 : decode cX10_paneAt 7 = .ok (.bipush 9, 2) := by decide +kernel
theorem dX10_paneAt_9 : decode cX10_paneAt 9 = .ok (.iaload, 1) := by decide +kernel
theorem dX10_paneAt_10 : decode cX10_paneAt 10 = .ok (.imul, 1) := by decide +kernel
theorem dX10_paneAt_11 : decode cX10_paneAt 11 = .ok (.iconst 1, 1) := by decide +kernel
theorem dX10_paneAt_12 : decode cX10_paneAt 12 = .ok (.isub, 1) := by decide +kernel
theorem dX10_paneAt_13 : decode cX10_paneAt 13 = .ok (.iload_n 2, 1) := by decide +kernel
theorem dX10_paneAt_14 : decode cX10_paneAt 14 = .ok (.isub, 1) := by decide +kernel
theorem dX10_paneAt_15 : decode cX10_paneAt 15 = .ok (.goto 4, 3) := by decide +kernel
theorem dX10_paneAt_18 : decode cX10_paneAt 18 = .ok (.iload_n 2, 1) := by decide +kernel
theorem dX10_paneAt_19 : decode cX10_paneAt 19 = .ok (.istore 6, 2) := by decide +kernel
theorem dX10_paneAt_21 : decode cX10_paneAt 21 = .ok (.iload 6, 2) := by decide +kernel
theorem dX10_paneAt_23 : decode cX10_paneAt 23 = .ok (.iload 4, 2) := by decide +kernel
theorem dX10_paneAt_25 : decode cX10_paneAt 25 = .ok (.isub, 1) := by decide +kernel
theorem dX10_paneAt_26 : decode cX10_paneAt 26 = .ok (.istore 7, 2) := by decide +kernel
theorem dX10_paneAt_28 : decode cX10_paneAt 28 = .ok (.iload_n 3, 1) := by decide +kernel
theorem dX10_paneAt_29 : decode cX10_paneAt 29 = .ok (.aload_n 1, 1) := by decide +kernel
theorem dX10_paneAt_30 : decode cX10_paneAt 30 = .ok (.bipush 10, 2) := by decide +kernel
theorem dX10_paneAt_32 : decode cX10_paneAt 32 = .ok (.iaload, 1) := by decide +kernel
theorem dX10_paneAt_33 : decode cX10_paneAt 33 = .ok (.isub, 1) := by decide +kernel
theorem dX10_paneAt_34 : decode cX10_paneAt 34 = .ok (.istore 8, 2) := by decide +kernel
theorem dX10_paneAt_36 : decode cX10_paneAt 36 = .ok (.aload_n 0, 1) := by decide +kernel
theorem dX10_paneAt_37 : decode cX10_paneAt 37 = .ok (.iload 7, 2) := by decide +kernel
theorem dX10_paneAt_39 : decode cX10_paneAt 39 = .ok (.iload 8, 2) := by decide +kernel
theorem dX10_paneAt_41 : decode cX10_paneAt 41 = .ok (.invokevirtual 183, 3) := by decide +kernel
theorem dX10_paneAt_44 : decode cX10_paneAt 44 = .ok (.ifCond .eq 33, 3) := by decide +kernel
theorem dX10_paneAt_47 : decode cX10_paneAt 47 = .ok (.iload 5, 2) := by decide +kernel
theorem dX10_paneAt_49 : decode cX10_paneAt 49 = .ok (.ifCond .eq 15, 3) := by decide +kernel
theorem dX10_paneAt_52 : decode cX10_paneAt 52 = .ok (.iload 6, 2) := by decide +kernel
theorem dX10_paneAt_54 : decode cX10_paneAt 54 = .ok (.aload_n 1, 1) := by decide +kernel
theorem dX10_paneAt_55 : decode cX10_paneAt 55 = .ok (.bipush 9, 2) := by decide +kernel
theorem dX10_paneAt_57 : decode cX10_paneAt 57 = .ok (.iaload, 1) := by decide +kernel
theorem dX10_paneAt_58 : decode cX10_paneAt 58 = .ok (.if_icmp .lt 19, 3) := by decide +kernel
theorem dX10_paneAt_61 : decode cX10_paneAt 61 = .ok (.goto 12, 3) := by decide +kernel
theorem dX10_paneAt_64 : decode cX10_paneAt 64 = .ok (.iload 6, 2) := by decide +kernel
theorem dX10_paneAt_66 : decode cX10_paneAt 66 = .ok (.aload_n 1, 1) := by decide +kernel
theorem dX10_paneAt_67 : decode cX10_paneAt 67 = .ok (.bipush 9, 2) := by decide +kernel
theorem dX10_paneAt_69 : decode cX10_paneAt 69 = .ok (.iaload, 1) := by decide +kernel
theorem dX10_paneAt_70 : decode cX10_paneAt 70 = .ok (.if_icmp .ge 7, 3) := by decide +kernel
theorem dX10_paneAt_73 : decode cX10_paneAt 73 = .ok (.iconst 1, 1) := by decide +kernel
theorem dX10_paneAt_74 : decode cX10_paneAt 74 = .ok (.goto 4, 3) := by decide +kernel
theorem dX10_paneAt_77 : decode cX10_paneAt 77 = .ok (.iconst 0, 1) := by decide +kernel
theorem dX10_paneAt_78 : decode cX10_paneAt 78 = .ok (.istore 9, 2) := by decide +kernel
theorem dX10_paneAt_80 : decode cX10_paneAt 80 = .ok (.iload 9, 2) := by decide +kernel
theorem dX10_paneAt_82 : decode cX10_paneAt 82 = .ok (.ifCond .eq 13, 3) := by decide +kernel
theorem dX10_paneAt_85 : decode cX10_paneAt 85 = .ok (.iconst 4, 1) := by decide +kernel
theorem dX10_paneAt_86 : decode cX10_paneAt 86 = .ok (.iload 7, 2) := by decide +kernel
theorem dX10_paneAt_88 : decode cX10_paneAt 88 = .ok (.imul, 1) := by decide +kernel
theorem dX10_paneAt_89 : decode cX10_paneAt 89 = .ok (.iload 8, 2) := by decide +kernel
theorem dX10_paneAt_91 : decode cX10_paneAt 91 = .ok (.iadd, 1) := by decide +kernel
theorem dX10_paneAt_92 : decode cX10_paneAt 92 = .ok (.goto 5, 3) := by decide +kernel
theorem dX10_paneAt_95 : decode cX10_paneAt 95 = .ok (.bipush (-9), 2) := by decide +kernel
theorem dX10_paneAt_97 : decode cX10_paneAt 97 = .ok (.ireturn, 1) := by decide +kernel
theorem dX10_lightOn_0 : decode cX10_lightOn 0 = .ok (.aload_n 0, 1) := by decide +kernel
theorem dX10_lightOn_1 : decode cX10_lightOn 1 = .ok (.aload_n 1, 1) := by decide +kernel
theorem dX10_lightOn_2 : decode cX10_lightOn 2 = .ok (.iload_n 2, 1) := by decide +kernel
theorem dX10_lightOn_3 : decode cX10_lightOn 3 = .ok (.iload_n 3, 1) := by decide +kernel
theorem dX10_lightOn_4 : decode cX10_lightOn 4 = .ok (.iload 4, 2) := by decide +kernel
theorem dX10_lightOn_6 : decode cX10_lightOn 6 = .ok (.iconst 0, 1) := by decide +kernel
theorem dX10_lightOn_7 : decode cX10_lightOn 7 = .ok (.invokevirtual 186, 3) := by decide +kernel
theorem dX10_lightOn_10 : decode cX10_lightOn 10 = .ok (.istore 5, 2) := by decide +kernel
theorem dX10_lightOn_12 : decode cX10_lightOn 12 = .ok (.aload_n 0, 1) := by decide +kernel
theorem dX10_lightOn_13 : decode cX10_lightOn 13 = .ok (.aload_n 1, 1) := by decide +kernel
theorem dX10_lightOn_14 : decode cX10_lightOn 14 = .ok (.iload_n 2, 1) := by decide +kernel
theorem dX10_lightOn_15 : decode cX10_lightOn 15 = .ok (.iload_n 3, 1) := by decide +kernel
theorem dX10_lightOn_16 : decode cX10_lightOn 16 = .ok (.iload 4, 2) := by decide +kernel
theorem dX10_lightOn_18 : decode cX10_lightOn 18 = .ok (.iconst 1, 1) := by decide +kernel
theorem dX10_lightOn_19 : decode cX10_lightOn 19 = .ok (.invokevirtual 186, 3) := by decide +kernel
theorem dX10_lightOn_22 : decode cX10_lightOn 22 = .ok (.istore 6, 2) := by decide +kernel
theorem dX10_lightOn_24 : decode cX10_lightOn 24 = .ok (.iload 5, 2) := by decide +kernel
theorem dX10_lightOn_26 : decode cX10_lightOn 26 = .ok (.bipush (-9), 2) := by decide +kernel
theorem dX10_lightOn_28 : decode cX10_lightOn 28 = .ok (.if_icmp .ne 7, 3) := by decide +kernel
theorem dX10_lightOn_31 : decode cX10_lightOn 31 = .ok (.iconst 0, 1) := by decide +kernel
theorem dX10_lightOn_32 : decode cX10_lightOn 32 = .ok (.goto 10, 3) := by decide +kernel
theorem dX10_lightOn_35 : decode cX10_lightOn 35 = .ok (.aload_n 0, 1) := by decide +kernel
theorem dX10_lightOn_36 : decode cX10_lightOn 36 = .ok (.aload_n 1, 1) := by decide +kernel
theorem dX10_lightOn_37 : decode cX10_lightOn 37 = .ok (.iload 5, 2) := by decide +kernel
theorem dX10_lightOn_39 : decode cX10_lightOn 39 = .ok (.invokevirtual 190, 3) := by decide +kernel
theorem dX10_lightOn_42 : decode cX10_lightOn 42 = .ok (.iload 6, 2) := by decide +kernel
theorem dX10_lightOn_44 : decode cX10_lightOn 44 = .ok (.bipush (-9), 2) := by decide +kernel
theorem dX10_lightOn_46 : decode cX10_lightOn 46 = .ok (.if_icmp .ne 7, 3) := by decide +kernel
theorem dX10_lightOn_49 : decode cX10_lightOn 49 = .ok (.iconst 0, 1) := by decide +kernel
theorem dX10_lightOn_50 : decode cX10_lightOn 50 = .ok (.goto 10, 3) := by decide +kernel
theorem dX10_lightOn_53 : decode cX10_lightOn 53 = .ok (.aload_n 0, 1) := by decide +kernel
theorem dX10_lightOn_54 : decode cX10_lightOn 54 = .ok (.aload_n 1, 1) := by decide +kernel
theorem dX10_lightOn_55 : decode cX10_lightOn 55 = .ok (.iload 6, 2) := by decide +kernel
theorem dX10_lightOn_57 : decode cX10_lightOn 57 = .ok (.invokevirtual 190, 3) := by decide +kernel
theorem dX10_lightOn_60 : decode cX10_lightOn 60 = .ok (.ior, 1) := by decide +kernel
theorem dX10_lightOn_61 : decode cX10_lightOn 61 = .ok (.ireturn, 1) := by decide +kernel
theorem dX10_lightAt_0 : decode cX10_lightAt 0 = .ok (.aload_n 0, 1) := by decide +kernel
theorem dX10_lightAt_1 : decode cX10_lightAt 1 = .ok (.aload_n 0, 1) := by decide +kernel
theorem dX10_lightAt_2 : decode cX10_lightAt 2 = .ok (.getfield 23, 3) := by decide +kernel
theorem dX10_lightAt_5 : decode cX10_lightAt 5 = .ok (.iload_n 1, 1) := by decide +kernel
theorem dX10_lightAt_6 : decode cX10_lightAt 6 = .ok (.bipush 7, 2) := by decide +kernel
theorem dX10_lightAt_8 : decode cX10_lightAt 8 = .ok (.idiv, 1) := by decide +kernel
theorem dX10_lightAt_9 : decode cX10_lightAt 9 = .ok (.iload_n 1, 1) := by decide +kernel
theorem dX10_lightAt_10 : decode cX10_lightAt 10 = .ok (.bipush 7, 2) := by decide +kernel
theorem dX10_lightAt_12 : decode cX10_lightAt 12 = .ok (.irem, 1) := by decide +kernel
theorem dX10_lightAt_13 : decode cX10_lightAt 13 = .ok (.iload_n 2, 1) := by decide +kernel
theorem dX10_lightAt_14 : decode cX10_lightAt 14 = .ok (.invokevirtual 193, 3) := by decide +kernel
theorem dX10_lightAt_17 : decode cX10_lightAt 17 = .ok (.ireturn, 1) := by decide +kernel
theorem dX10_breaksOn_0 : decode cX10_breaksOn 0 = .ok (.iconst 0, 1) := by decide +kernel
theorem dX10_breaksOn_1 : decode cX10_breaksOn 1 = .ok (.istore_n 2, 1) := by decide +kernel
theorem dX10_breaksOn_2 : decode cX10_breaksOn 2 = .ok (.iload_n 2, 1) := by decide +kernel
theorem dX10_breaksOn_3 : decode cX10_breaksOn 3 = .ok (.bipush 8, 2) := by decide +kernel
theorem dX10_breaksOn_5 : decode cX10_breaksOn 5 = .ok (.if_icmp .ge 33, 3) := by decide +kernel
theorem dX10_breaksOn_8 : decode cX10_breaksOn 8 = .ok (.aload_n 0, 1) := by decide +kernel
theorem dX10_breaksOn_9 : decode cX10_breaksOn 9 = .ok (.iconst 0, 1) := by decide +kernel
theorem dX10_breaksOn_10 : decode cX10_breaksOn 10 = .ok (.iload_n 2, 1) := by decide +kernel
theorem dX10_breaksOn_11 : decode cX10_breaksOn 11 = .ok (.iadd, 1) := by decide +kernel
theorem dX10_breaksOn_12 : decode cX10_breaksOn 12 = .ok (.aload_n 0, 1) := by decide +kernel
theorem dX10_breaksOn_13 : decode cX10_breaksOn 13 = .ok (.iconst 0, 1) := by decide +kernel
theorem dX10_breaksOn_14 : decode cX10_breaksOn 14 = .ok (.iload_n 2, 1) := by decide +kernel
theorem dX10_breaksOn_15 : decode cX10_breaksOn 15 = .ok (.iadd, 1) := by decide +kernel
theorem dX10_breaksOn_16 : decode cX10_breaksOn 16 = .ok (.iaload, 1) := by decide +kernel
theorem dX10_breaksOn_17 : decode cX10_breaksOn 17 = .ok (.iload_n 1, 1) := by decide +kernel
theorem dX10_breaksOn_18 : decode cX10_breaksOn 18 = .ok (.if_icmp .ne 8, 3) := by decide +kernel
theorem dX10_breaksOn_21 : decode cX10_breaksOn 21 = .ok (.bipush (-9), 2) := by decide +kernel
theorem dX10_breaksOn_23 : decode cX10_breaksOn 23 = .ok (.goto 8, 3) := by decide +kernel
theorem dX10_breaksOn_26 : decode cX10_breaksOn 26 = .ok (.aload_n 0, 1) := by decide +kernel
theorem dX10_breaksOn_27 : decode cX10_breaksOn 27 = .ok (.iconst 0, 1) := by decide +kernel
theorem dX10_breaksOn_28 : decode cX10_breaksOn 28 = .ok (.iload_n 2, 1) := by decide +kernel
theorem dX10_breaksOn_29 : decode cX10_breaksOn 29 = .ok (.iadd, 1) := by decide +kernel
theorem dX10_breaksOn_30 : decode cX10_breaksOn 30 = .ok (.iaload, 1) := by decide +kernel
theorem dX10_breaksOn_31 : decode cX10_breaksOn 31 = .ok (.iastore, 1) := by decide +kernel
theorem dX10_breaksOn_32 : decode cX10_breaksOn 32 = .ok (.iinc 2 1, 3) := by decide +kernel
theorem dX10_breaksOn_35 : decode cX10_breaksOn 35 = .ok (.goto (-33), 3) := by decide +kernel
theorem dX10_breaksOn_38 : decode cX10_breaksOn 38 = .ok (.aload_n 0, 1) := by decide +kernel
theorem dX10_breaksOn_39 : decode cX10_breaksOn 39 = .ok (.bipush 8, 2) := by decide +kernel
theorem dX10_breaksOn_41 : decode cX10_breaksOn 41 = .ok (.dup2, 1) := by decide +kernel
theorem dX10_breaksOn_42 : decode cX10_breaksOn 42 = .ok (.iaload, 1) := by decide +kernel
theorem dX10_breaksOn_43 : decode cX10_breaksOn 43 = .ok (.iconst 1, 1) := by decide +kernel
theorem dX10_breaksOn_44 : decode cX10_breaksOn 44 = .ok (.iload_n 1, 1) := by decide +kernel
theorem dX10_breaksOn_45 : decode cX10_breaksOn 45 = .ok (.ishl, 1) := by decide +kernel
theorem dX10_breaksOn_46 : decode cX10_breaksOn 46 = .ok (.ior, 1) := by decide +kernel
theorem dX10_breaksOn_47 : decode cX10_breaksOn 47 = .ok (.iastore, 1) := by decide +kernel
theorem dX10_breaksOn_48 : decode cX10_breaksOn 48 = .ok (.return_, 1) := by decide +kernel
theorem dX10_pane_0 : decode cX10_pane 0 = .ok (.aload_n 0, 1) := by decide +kernel
theorem dX10_pane_1 : decode cX10_pane 1 = .ok (.iload_n 1, 1) := by decide +kernel
theorem dX10_pane_2 : decode cX10_pane 2 = .ok (.iload_n 2, 1) := by decide +kernel
theorem dX10_pane_3 : decode cX10_pane 3 = .ok (.invokevirtual 183, 3) := by decide +kernel
theorem dX10_pane_6 : decode cX10_pane 6 = .ok (.ifCond .ne 5, 3) := by decide +kernel
theorem dX10_pane_9 : decode cX10_pane 9 = .ok (.iconst (-1), 1) := by decide +kernel
theorem dX10_pane_10 : decode cX10_pane 10 = .ok (.ireturn, 1) := by decide +kernel
theorem dX10_pane_11 : decode cX10_pane 11 = .ok (.iconst 4, 1) := by decide +kernel
theorem dX10_pane_12 : decode cX10_pane 12 = .ok (.iload_n 1, 1) := by decide +kernel
theorem dX10_pane_13 : decode cX10_pane 13 = .ok (.imul, 1) := by decide +kernel
theorem dX10_pane_14 : decode cX10_pane 14 = .ok (.iload_n 2, 1) := by decide +kernel
theorem dX10_pane_15 : decode cX10_pane 15 = .ok (.iadd, 1) := by decide +kernel
theorem dX10_pane_16 : decode cX10_pane 16 = .ok (.istore 4, 2) := by decide +kernel
theorem dX10_pane_18 : decode cX10_pane 18 = .ok (.iload_n 3, 1) := by decide +kernel
theorem dX10_pane_19 : decode cX10_pane 19 = .ok (.tableswitch 72 0 3 #[29, 37, 50, 61], 29) := by decide +kernel
theorem dX10_pane_48 : decode cX10_pane 48 = .ok (.aload_n 0, 1) := by decide +kernel
theorem dX10_pane_49 : decode cX10_pane 49 = .ok (.getfield 16, 3) := by decide +kernel
theorem dX10_pane_52 : decode cX10_pane 52 = .ok (.iload 4, 2) := by decide +kernel
theorem dX10_pane_54 : decode cX10_pane 54 = .ok (.iaload, 1) := by decide +kernel
theorem dX10_pane_55 : decode cX10_pane 55 = .ok (.ireturn, 1) := by decide +kernel
theorem dX10_pane_56 : decode cX10_pane 56 = .ok (.aload_n 0, 1) := by decide +kernel
theorem dX10_pane_57 : decode cX10_pane 57 = .ok (.getfield 23, 3) := by decide +kernel
theorem dX10_pane_60 : decode cX10_pane 60 = .ok (.bipush 8, 2) := by decide +kernel
theorem dX10_pane_62 : decode cX10_pane 62 = .ok (.iaload, 1) := by decide +kernel
theorem dX10_pane_63 : decode cX10_pane 63 = .ok (.iload 4, 2) := by decide +kernel
theorem dX10_pane_65 : decode cX10_pane 65 = .ok (.ishr, 1) := by decide +kernel
theorem dX10_pane_66 : decode cX10_pane 66 = .ok (.iconst 1, 1) := by decide +kernel
theorem dX10_pane_67 : decode cX10_pane 67 = .ok (.iand, 1) := by decide +kernel
theorem dX10_pane_68 : decode cX10_pane 68 = .ok (.ireturn, 1) := by decide +kernel
theorem dX10_pane_69 : decode cX10_pane 69 = .ok (.aload_n 0, 1) := by decide +kernel
theorem dX10_pane_70 : decode cX10_pane 70 = .ok (.aload_n 0, 1) := by decide +kernel
theorem dX10_pane_71 : decode cX10_pane 71 = .ok (.getfield 23, 3) := by decide +kernel
theorem dX10_pane_74 : decode cX10_pane 74 = .ok (.iload 4, 2) := by decide +kernel
theorem dX10_pane_76 : decode cX10_pane 76 = .ok (.invokevirtual 175, 3) := by decide +kernel
theorem dX10_pane_79 : decode cX10_pane 79 = .ok (.ireturn, 1) := by decide +kernel
theorem dX10_pane_80 : decode cX10_pane 80 = .ok (.aload_n 0, 1) := by decide +kernel
theorem dX10_pane_81 : decode cX10_pane 81 = .ok (.aload_n 0, 1) := by decide +kernel
theorem dX10_pane_82 : decode cX10_pane 82 = .ok (.getfield 23, 3) := by decide +kernel
theorem dX10_pane_85 : decode cX10_pane 85 = .ok (.iload 4, 2) := by decide +kernel
theorem dX10_pane_87 : decode cX10_pane 87 = .ok (.invokevirtual 190, 3) := by decide +kernel
theorem dX10_pane_90 : decode cX10_pane 90 = .ok (.ireturn, 1) := by decide +kernel
theorem dX10_pane_91 : decode cX10_pane 91 = .ok (.iconst (-1), 1) := by decide +kernel
theorem dX10_pane_92 : decode cX10_pane 92 = .ok (.ireturn, 1) := by decide +kernel
theorem dX10_sheet_0 : decode cX10_sheet 0 = .ok (.aload_n 0, 1) := by decide +kernel
theorem dX10_sheet_1 : decode cX10_sheet 1 = .ok (.iload_n 1, 1) := by decide +kernel
theorem dX10_sheet_2 : decode cX10_sheet 2 = .ok (.invokevirtual 197, 3) := by decide +kernel
theorem dX10_sheet_5 : decode cX10_sheet 5 = .ok (.ifCond .eq 13, 3) := by decide +kernel
theorem dX10_sheet_8 : decode cX10_sheet 8 = .ok (.iload_n 2, 1) := by decide +kernel
theorem dX10_sheet_9 : decode cX10_sheet 9 = .ok (.i2l, 1) := by decide +kernel
theorem dX10_sheet_10 : decode cX10_sheet 10 = .ok (.lconst 0, 1) := by decide +kernel
theorem dX10_sheet_11 : decode cX10_sheet 11 = .ok (.lconst 1, 1) := by decide +kernel
theorem dX10_sheet_12 : decode cX10_sheet 12 = .ok (.invokestatic 81, 3) := by decide +kernel
theorem dX10_sheet_15 : decode cX10_sheet 15 = .ok (.ifCond .ne 5, 3) := by decide +kernel
theorem dX10_sheet_18 : decode cX10_sheet 18 = .ok (.iconst (-1), 1) := by decide +kernel
theorem dX10_sheet_19 : decode cX10_sheet 19 = .ok (.ireturn, 1) := by decide +kernel
theorem dX10_sheet_20 : decode cX10_sheet 20 = .ok (.iload_n 2, 1) := by decide +kernel
theorem dX10_sheet_21 : decode cX10_sheet 21 = .ok (.ifCond .ne 12, 3) := by decide +kernel
theorem dX10_sheet_24 : decode cX10_sheet 24 = .ok (.aload_n 0, 1) := by decide +kernel
theorem dX10_sheet_25 : decode cX10_sheet 25 = .ok (.getfield 20, 3) := by decide +kernel
theorem dX10_sheet_28 : decode cX10_sheet 28 = .ok (.iload_n 1, 1) := by decide +kernel
theorem dX10_sheet_29 : decode cX10_sheet 29 = .ok (.iaload, 1) := by decide +kernel
theorem dX10_sheet_30 : decode cX10_sheet 30 = .ok (.goto 11, 3) := by decide +kernel
theorem dX10_sheet_33 : decode cX10_sheet 33 = .ok (.aload_n 0, 1) := by decide +kernel
theorem dX10_sheet_34 : decode cX10_sheet 34 = .ok (.getfield 23, 3) := by decide +kernel
theorem dX10_sheet_37 : decode cX10_sheet 37 = .ok (.iconst 0, 1) := by decide +kernel
theorem dX10_sheet_38 : decode cX10_sheet 38 = .ok (.iload_n 1, 1) := by decide +kernel
theorem dX10_sheet_39 : decode cX10_sheet 39 = .ok (.iadd, 1) := by decide +kernel
theorem dX10_sheet_40 : decode cX10_sheet 40 = .ok (.iaload, 1) := by decide +kernel
theorem dX10_sheet_41 : decode cX10_sheet 41 = .ok (.ireturn, 1) := by decide +kernel
theorem dX10_remember_0 : decode cX10_remember 0 = .ok (.aload_n 0, 1) := by decide +kernel
theorem dX10_remember_1 : decode cX10_remember 1 = .ok (.getfield 73, 3) := by decide +kernel
theorem dX10_remember_4 : decode cX10_remember 4 = .ok (.bipush 10, 2) := by decide +kernel
theorem dX10_remember_6 : decode cX10_remember 6 = .ok (.if_icmp .ne 42, 3) := by decide +kernel
theorem dX10_remember_9 : decode cX10_remember 9 = .ok (.iconst 0, 1) := by decide +kernel
theorem dX10_remember_10 : decode cX10_remember 10 = .ok (.istore_n 1, 1) := by decide +kernel
theorem dX10_remember_11 : decode cX10_remember 11 = .ok (.iload_n 1, 1) := by decide +kernel
theorem dX10_remember_12 : decode cX10_remember 12 = .ok (.bipush 99, 2) := by decide +kernel
theorem dX10_remember_14 : decode cX10_remember 14 = .ok (.if_icmp .ge 24, 3) := by decide +kernel
theorem dX10_remember_17 : decode cX10_remember 17 = .ok (.aload_n 0, 1) := by decide +kernel
theorem dX10_remember_18 : decode cX10_remember 18 = .ok (.getfield 29, 3) := by decide +kernel
theorem dX10_remember_21 : decode cX10_remember 21 = .ok (.iload_n 1, 1) := by decide +kernel
theorem dX10_remember_22 : decode cX10_remember 22 = .ok (.aload_n 0, 1) := by decide +kernel
theorem dX10_remember_23 : decode cX10_remember 23 = .ok (.getfield 29, 3) := by decide +kernel
theorem dX10_remember_26 : decode cX10_remember 26 = .ok (.iload_n 1, 1) := by decide +kernel
theorem dX10_remember_27 : decode cX10_remember 27 = .ok (.bipush 11, 2) := by decide +kernel
theorem dX10_remember_29 : decode cX10_remember 29 = .ok (.iadd, 1) := by decide +kernel
theorem dX10_remember_30 : decode cX10_remember 30 = .ok (.iaload, 1) := by decide +kernel
theorem dX10_remember_31 : decode cX10_remember 31 = .ok (.iastore, 1) := by decide +kernel
theorem dX10_remember_32 : decode cX10_remember 32 = .ok (.iinc 1 1, 3) := by decide +kernel
theorem dX10_remember_35 : decode cX10_remember 35 = .ok (.goto (-24), 3) := by decide +kernel
theorem dX10_remember_38 : decode cX10_remember 38 = .ok (.aload_n 0, 1) := by decide +kernel
theorem dX10_remember_39 : decode cX10_remember 39 = .ok (.dup, 1) := by decide +kernel
theorem dX10_remember_40 : decode cX10_remember 40 = .ok (.getfield 73, 3) := by decide +kernel
theorem dX10_remember_43 : decode cX10_remember 43 = .ok (.iconst 1, 1) := by decide +kernel
theorem dX10_remember_44 : decode cX10_remember 44 = .ok (.isub, 1) := by decide +kernel
theorem dX10_remember_45 : decode cX10_remember 45 = .ok (.putfield 73, 3) := by decide +kernel
theorem dX10_remember_48 : decode cX10_remember 48 = .ok (.aload_n 0, 1) := by decide +kernel
theorem dX10_remember_49 : decode cX10_remember 49 = .ok (.getfield 23, 3) := by decide +kernel
theorem dX10_remember_52 : decode cX10_remember 52 = .ok (.iconst 0, 1) := by decide +kernel
theorem dX10_remember_53 : decode cX10_remember 53 = .ok (.aload_n 0, 1) := by decide +kernel
theorem dX10_remember_54 : decode cX10_remember 54 = .ok (.getfield 29, 3) := by decide +kernel
theorem dX10_remember_57 : decode cX10_remember 57 = .ok (.bipush 11, 2) := by decide +kernel
theorem dX10_remember_59 : decode cX10_remember 59 = .ok (.aload_n 0, 1) := by decide +kernel
theorem dX10_remember_60 : decode cX10_remember 60 = .ok (.getfield 73, 3) := by decide +kernel
theorem dX10_remember_63 : decode cX10_remember 63 = .ok (.imul, 1) := by decide +kernel
theorem dX10_remember_64 : decode cX10_remember 64 = .ok (.bipush 11, 2) := by decide +kernel
theorem dX10_remember_66 : decode cX10_remember 66 = .ok (.invokestatic 162, 3) := by decide +kernel
theorem dX10_remember_69 : decode cX10_remember 69 = .ok (.aload_n 0, 1) := by decide +kernel
theorem dX10_remember_70 : decode cX10_remember 70 = .ok (.dup, 1) := by decide +kernel
theorem dX10_remember_71 : decode cX10_remember 71 = .ok (.getfield 73, 3) := by decide +kernel
theorem dX10_remember_74 : decode cX10_remember 74 = .ok (.iconst 1, 1) := by decide +kernel
theorem dX10_remember_75 : decode cX10_remember 75 = .ok (.iadd, 1) := by decide +kernel
theorem dX10_remember_76 : decode cX10_remember 76 = .ok (.putfield 73, 3) := by decide +kernel
theorem dX10_remember_79 : decode cX10_remember 79 = .ok (.return_, 1) := by decide +kernel
theorem dX10_lays_0 : decode cX10_lays 0 = .ok (.aload_n 0, 1) := by decide +kernel
theorem dX10_lays_1 : decode cX10_lays 1 = .ok (.iload_n 1, 1) := by decide +kernel
theorem dX10_lays_2 : decode cX10_lays 2 = .ok (.invokevirtual 197, 3) := by decide +kernel
theorem dX10_lays_5 : decode cX10_lays 5 = .ok (.ifCond .eq 12, 3) := by decide +kernel
theorem dX10_lays_8 : decode cX10_lays 8 = .ok (.aload_n 0, 1) := by decide +kernel
theorem dX10_lays_9 : decode cX10_lays 9 = .ok (.iload_n 2, 1) := by decide +kernel
theorem dX10_lays_10 : decode cX10_lays 10 = .ok (.iload_n 3, 1) := by decide +kernel
theorem dX10_lays_11 : decode cX10_lays 11 = .ok (.invokevirtual 183, 3) := by decide +kernel
theorem dX10_lays_14 : decode cX10_lays 14 = .ok (.ifCond .ne 5, 3) := by decide +kernel
theorem dX10_lays_17 : decode cX10_lays 17 = .ok (.iconst (-1), 1) := by decide +kernel
theorem dX10_lays_18 : decode cX10_lays 18 = .ok (.ireturn, 1) := by decide +kernel
theorem dX10_lays_19 : decode cX10_lays 19 = .ok (.iconst 4, 1) := by decide +kernel
theorem dX10_lays_20 : decode cX10_lays 20 = .ok (.iload_n 2, 1) := by decide +kernel
theorem dX10_lays_21 : decode cX10_lays 21 = .ok (.imul, 1) := by decide +kernel
theorem dX10_lays_22 : decode cX10_lays 22 = .ok (.iload_n 3, 1) := by decide +kernel
theorem dX10_lays_23 : decode cX10_lays 23 = .ok (.iadd, 1) := by decide +kernel
theorem dX10_lays_24 : decode cX10_lays 24 = .ok (.istore 4, 2) := by decide +kernel
theorem dX10_lays_26 : decode cX10_lays 26 = .ok (.aload_n 0, 1) := by decide +kernel
theorem dX10_lays_27 : decode cX10_lays 27 = .ok (.getfield 23, 3) := by decide +kernel
theorem dX10_lays_30 : decode cX10_lays 30 = .ok (.iconst 0, 1) := by decide +kernel
theorem dX10_lays_31 : decode cX10_lays 31 = .ok (.iload_n 1, 1) := by decide +kernel
theorem dX10_lays_32 : decode cX10_lays 32 = .ok (.iadd, 1) := by decide +kernel
theorem dX10_lays_33 : decode cX10_lays 33 = .ok (.iaload, 1) := by decide +kernel
theorem dX10_lays_34 : decode cX10_lays 34 = .ok (.bipush (-9), 2) := by decide +kernel
theorem dX10_lays_36 : decode cX10_lays 36 = .ok (.if_icmp .ne 35, 3) := by decide +kernel
theorem dX10_lays_39 : decode cX10_lays 39 = .ok (.aload_n 0, 1) := by decide +kernel
theorem dX10_lays_40 : decode cX10_lays 40 = .ok (.getfield 23, 3) := by decide +kernel
theorem dX10_lays_43 : decode cX10_lays 43 = .ok (.bipush 8, 2) := by decide +kernel
theorem dX10_lays_45 : decode cX10_lays 45 = .ok (.iaload, 1) := by decide +kernel
theorem dX10_lays_46 : decode cX10_lays 46 = .ok (.iload 4, 2) := by decide +kernel
theorem dX10_lays_48 : decode cX10_lays 48 = .ok (.invokestatic 172, 3) := by decide +kernel
theorem dX10_lays_51 : decode cX10_lays 51 = .ok (.ifCond .ne 20, 3) := by decide +kernel
theorem dX10_lays_54 : decode cX10_lays 54 = .ok (.aload_n 0, 1) := by decide +kernel
theorem dX10_lays_55 : decode cX10_lays 55 = .ok (.aload_n 0, 1) := by decide +kernel
theorem dX10_lays_56 : decode cX10_lays 56 = .ok (.getfield 23, 3) := by decide +kernel
theorem dX10_lays_59 : decode cX10_lays 59 = .ok (.iload 4, 2) := by decide +kernel
theorem dX10_lays_61 : decode cX10_lays 61 = .ok (.invokevirtual 175, 3) := by decide +kernel
theorem dX10_lays_64 : decode cX10_lays 64 = .ok (.invokestatic 201, 3) := by decide +kernel
theorem dX10_lays_67 : decode cX10_lays 67 = .ok (.iconst 3, 1) := by decide +kernel
theorem dX10_lays_68 : decode cX10_lays 68 = .ok (.if_icmp .ne 6, 3) := by decide +kernel
theorem dX10_lays_71 : decode cX10_lays 71 = .ok (.bipush (-2), 2) := by decide +kernel
theorem dX10_lays_73 : decode cX10_lays 73 = .ok (.ireturn, 1) := by decide +kernel
theorem dX10_lays_74 : decode cX10_lays 74 = .ok (.aload_n 0, 1) := by decide +kernel
theorem dX10_lays_75 : decode cX10_lays 75 = .ok (.invokevirtual 204, 3) := by decide +kernel
theorem dX10_lays_78 : decode cX10_lays 78 = .ok (.aload_n 0, 1) := by decide +kernel
theorem dX10_lays_79 : decode cX10_lays 79 = .ok (.getfield 23, 3) := by decide +kernel
theorem dX10_lays_82 : decode cX10_lays 82 = .ok (.iconst 0, 1) := by decide +kernel
theorem dX10_lays_83 : decode cX10_lays 83 = .ok (.iload_n 1, 1) := by decide +kernel
theorem dX10_lays_84 : decode cX10_lays 84 = .ok (.iadd, 1) := by decide +kernel
theorem dX10_lays_85 : decode cX10_lays 85 = .ok (.iload 4, 2) := by decide +kernel
theorem dX10_lays_87 : decode cX10_lays 87 = .ok (.iastore, 1) := by decide +kernel
theorem dX10_lays_88 : decode cX10_lays 88 = .ok (.aload_n 0, 1) := by decide +kernel
theorem dX10_lays_89 : decode cX10_lays 89 = .ok (.aload_n 0, 1) := by decide +kernel
theorem dX10_lays_90 : decode cX10_lays 90 = .ok (.getfield 23, 3) := by decide +kernel
theorem dX10_lays_93 : decode cX10_lays 93 = .ok (.iload 4, 2) := by decide +kernel
theorem dX10_lays_95 : decode cX10_lays 95 = .ok (.invokevirtual 190, 3) := by decide +kernel
theorem dX10_lays_98 : decode cX10_lays 98 = .ok (.ireturn, 1) := by decide +kernel
theorem dX10_takes_0 : decode cX10_takes 0 = .ok (.aload_n 0, 1) := by decide +kernel
theorem dX10_takes_1 : decode cX10_takes 1 = .ok (.iload_n 1, 1) := by decide +kernel
theorem dX10_takes_2 : decode cX10_takes 2 = .ok (.invokevirtual 197, 3) := by decide +kernel
theorem dX10_takes_5 : decode cX10_takes 5 = .ok (.ifCond .ne 5, 3) := by decide +kernel
theorem dX10_takes_8 : decode cX10_takes 8 = .ok (.iconst (-1), 1) := by decide +kernel
theorem dX10_takes_9 : decode cX10_takes 9 = .ok (.ireturn, 1) := by decide +kernel
theorem dX10_takes_10 : decode cX10_takes 10 = .ok (.aload_n 0, 1) := by decide +kernel
theorem dX10_takes_11 : decode cX10_takes 11 = .ok (.getfield 23, 3) := by decide +kernel
theorem dX10_takes_14 : decode cX10_takes 14 = .ok (.iconst 0, 1) := by decide +kernel
theorem dX10_takes_15 : decode cX10_takes 15 = .ok (.iload_n 1, 1) := by decide +kernel
theorem dX10_takes_16 : decode cX10_takes 16 = .ok (.iadd, 1) := by decide +kernel
theorem dX10_takes_17 : decode cX10_takes 17 = .ok (.iaload, 1) := by decide +kernel
theorem dX10_takes_18 : decode cX10_takes 18 = .ok (.istore_n 2, 1) := by decide +kernel
theorem dX10_takes_19 : decode cX10_takes 19 = .ok (.iload_n 2, 1) := by decide +kernel
theorem dX10_takes_20 : decode cX10_takes 20 = .ok (.bipush (-9), 2) := by decide +kernel
theorem dX10_takes_22 : decode cX10_takes 22 = .ok (.if_icmp .ne 6, 3) := by decide +kernel
theorem dX10_takes_25 : decode cX10_takes 25 = .ok (.bipush (-2), 2) := by decide +kernel
theorem dX10_takes_27 : decode cX10_takes 27 = .ok (.ireturn, 1) := by decide +kernel
theorem dX10_takes_28 : decode cX10_takes 28 = .ok (.aload_n 0, 1) := by decide +kernel
theorem dX10_takes_29 : decode cX10_takes 29 = .ok (.invokevirtual 204, 3) := by decide +kernel
theorem dX10_takes_32 : decode cX10_takes 32 = .ok (.aload_n 0, 1) := by decide +kernel
theorem dX10_takes_33 : decode cX10_takes 33 = .ok (.getfield 23, 3) := by decide +kernel
theorem dX10_takes_36 : decode cX10_takes 36 = .ok (.iconst 0, 1) := by decide +kernel
theorem dX10_takes_37 : decode cX10_takes 37 = .ok (.iload_n 1, 1) := by decide +kernel
theorem dX10_takes_38 : decode cX10_takes 38 = .ok (.iadd, 1) := by decide +kernel
theorem dX10_takes_39 : decode cX10_takes 39 = .ok (.bipush (-9), 2) := by decide +kernel
theorem dX10_takes_41 : decode cX10_takes 41 = .ok (.iastore, 1) := by decide +kernel
theorem dX10_takes_42 : decode cX10_takes 42 = .ok (.iload_n 2, 1) := by decide +kernel
theorem dX10_takes_43 : decode cX10_takes 43 = .ok (.ireturn, 1) := by decide +kernel
theorem dX10_breaks_0 : decode cX10_breaks 0 = .ok (.aload_n 0, 1) := by decide +kernel
theorem dX10_breaks_1 : decode cX10_breaks 1 = .ok (.iload_n 1, 1) := by decide +kernel
theorem dX10_breaks_2 : decode cX10_breaks 2 = .ok (.iload_n 2, 1) := by decide +kernel
theorem dX10_breaks_3 : decode cX10_breaks 3 = .ok (.invokevirtual 183, 3) := by decide +kernel
theorem dX10_breaks_6 : decode cX10_breaks 6 = .ok (.ifCond .ne 5, 3) := by decide +kernel
theorem dX10_breaks_9 : decode cX10_breaks 9 = .ok (.iconst (-1), 1) := by decide +kernel
theorem dX10_breaks_10 : decode cX10_breaks 10 = .ok (.ireturn, 1) := by decide +kernel
theorem dX10_breaks_11 : decode cX10_breaks 11 = .ok (.iconst 4, 1) := by decide +kernel
theorem dX10_breaks_12 : decode cX10_breaks 12 = .ok (.iload_n 1, 1) := by decide +kernel
theorem dX10_breaks_13 : decode cX10_breaks 13 = .ok (.imul, 1) := by decide +kernel
theorem dX10_breaks_14 : decode cX10_breaks 14 = .ok (.iload_n 2, 1) := by decide +kernel
theorem dX10_breaks_15 : decode cX10_breaks 15 = .ok (.iadd, 1) := by decide +kernel
theorem dX10_breaks_16 : decode cX10_breaks 16 = .ok (.istore_n 3, 1) := by decide +kernel
theorem dX10_breaks_17 : decode cX10_breaks 17 = .ok (.aload_n 0, 1) := by decide +kernel
theorem dX10_breaks_18 : decode cX10_breaks 18 = .ok (.getfield 23, 3) := by decide +kernel
theorem dX10_breaks_21 : decode cX10_breaks 21 = .ok (.bipush 8, 2) := by decide +kernel
theorem dX10_breaks_23 : decode cX10_breaks 23 = .ok (.iaload, 1) := by decide +kernel
theorem dX10_breaks_24 : decode cX10_breaks 24 = .ok (.iload_n 3, 1) := by decide +kernel
theorem dX10_breaks_25 : decode cX10_breaks 25 = .ok (.invokestatic 172, 3) := by decide +kernel
theorem dX10_breaks_28 : decode cX10_breaks 28 = .ok (.ifCond .eq 6, 3) := by decide +kernel
theorem dX10_breaks_31 : decode cX10_breaks 31 = .ok (.bipush (-2), 2) := by decide +kernel
theorem dX10_breaks_33 : decode cX10_breaks 33 = .ok (.ireturn, 1) := by decide +kernel
theorem dX10_breaks_34 : decode cX10_breaks 34 = .ok (.aload_n 0, 1) := by decide +kernel
theorem dX10_breaks_35 : decode cX10_breaks 35 = .ok (.invokevirtual 204, 3) := by decide +kernel
theorem dX10_breaks_38 : decode cX10_breaks 38 = .ok (.aload_n 0, 1) := by decide +kernel
theorem dX10_breaks_39 : decode cX10_breaks 39 = .ok (.aload_n 0, 1) := by decide +kernel
theorem dX10_breaks_40 : decode cX10_breaks 40 = .ok (.getfield 23, 3) := by decide +kernel
theorem dX10_breaks_43 : decode cX10_breaks 43 = .ok (.iload_n 3, 1) := by decide +kernel
theorem dX10_breaks_44 : decode cX10_breaks 44 = .ok (.invokevirtual 175, 3) := by decide +kernel
theorem dX10_breaks_47 : decode cX10_breaks 47 = .ok (.invokestatic 201, 3) := by decide +kernel
theorem dX10_breaks_50 : decode cX10_breaks 50 = .ok (.istore 4, 2) := by decide +kernel
theorem dX10_breaks_52 : decode cX10_breaks 52 = .ok (.aload_n 0, 1) := by decide +kernel
theorem dX10_breaks_53 : decode cX10_breaks 53 = .ok (.getfield 23, 3) := by decide +kernel
theorem dX10_breaks_56 : decode cX10_breaks 56 = .ok (.iload_n 3, 1) := by decide +kernel
theorem dX10_breaks_57 : decode cX10_breaks 57 = .ok (.invokestatic 207, 3) := by decide +kernel
theorem dX10_breaks_60 : decode cX10_breaks 60 = .ok (.iload 4, 2) := by decide +kernel
theorem dX10_breaks_62 : decode cX10_breaks 62 = .ok (.ireturn, 1) := by decide +kernel
theorem dX10_mends_0 : decode cX10_mends 0 = .ok (.aload_n 0, 1) := by decide +kernel
theorem dX10_mends_1 : decode cX10_mends 1 = .ok (.iload_n 1, 1) := by decide +kernel
theorem dX10_mends_2 : decode cX10_mends 2 = .ok (.iload_n 2, 1) := by decide +kernel
theorem dX10_mends_3 : decode cX10_mends 3 = .ok (.invokevirtual 183, 3) := by decide +kernel
theorem dX10_mends_6 : decode cX10_mends 6 = .ok (.ifCond .ne 5, 3) := by decide +kernel
theorem dX10_mends_9 : decode cX10_mends 9 = .ok (.iconst (-1), 1) := by decide +kernel
theorem dX10_mends_10 : decode cX10_mends 10 = .ok (.ireturn, 1) := by decide +kernel
theorem dX10_mends_11 : decode cX10_mends 11 = .ok (.iconst 4, 1) := by decide +kernel
theorem dX10_mends_12 : decode cX10_mends 12 = .ok (.iload_n 1, 1) := by decide +kernel
theorem dX10_mends_13 : decode cX10_mends 13 = .ok (.imul, 1) := by decide +kernel
theorem dX10_mends_14 : decode cX10_mends 14 = .ok (.iload_n 2, 1) := by decide +kernel
theorem dX10_mends_15 : decode cX10_mends 15 = .ok (.iadd, 1) := by decide +kernel
theorem dX10_mends_16 : decode cX10_mends 16 = .ok (.istore_n 3, 1) := by decide +kernel
theorem dX10_mends_17 : decode cX10_mends 17 = .ok (.aload_n 0, 1) := by decide +kernel
theorem dX10_mends_18 : decode cX10_mends 18 = .ok (.getfield 23, 3) := by decide +kernel
theorem dX10_mends_21 : decode cX10_mends 21 = .ok (.bipush 8, 2) := by decide +kernel
theorem dX10_mends_23 : decode cX10_mends 23 = .ok (.iaload, 1) := by decide +kernel
theorem dX10_mends_24 : decode cX10_mends 24 = .ok (.iload_n 3, 1) := by decide +kernel
theorem dX10_mends_25 : decode cX10_mends 25 = .ok (.invokestatic 172, 3) := by decide +kernel
theorem dX10_mends_28 : decode cX10_mends 28 = .ok (.ifCond .ne 6, 3) := by decide +kernel
theorem dX10_mends_31 : decode cX10_mends 31 = .ok (.bipush (-2), 2) := by decide +kernel
theorem dX10_mends_33 : decode cX10_mends 33 = .ok (.ireturn, 1) := by decide +kernel
theorem dX10_mends_34 : decode cX10_mends 34 = .ok (.aload_n 0, 1) := by decide +kernel
theorem dX10_mends_35 : decode cX10_mends 35 = .ok (.invokevirtual 204, 3) := by decide +kernel
theorem dX10_mends_38 : decode cX10_mends 38 = .ok (.aload_n 0, 1) := by decide +kernel
theorem dX10_mends_39 : decode cX10_mends 39 = .ok (.getfield 23, 3) := by decide +kernel
theorem dX10_mends_42 : decode cX10_mends 42 = .ok (.bipush 8, 2) := by decide +kernel
theorem dX10_mends_44 : decode cX10_mends 44 = .ok (.dup2, 1) := by decide +kernel
theorem dX10_mends_45 : decode cX10_mends 45 = .ok (.iaload, 1) := by decide +kernel
theorem dX10_mends_46 : decode cX10_mends 46 = .ok (.iconst 1, 1) := by decide +kernel
theorem dX10_mends_47 : decode cX10_mends 47 = .ok (.iload_n 3, 1) := by decide +kernel
theorem dX10_mends_48 : decode cX10_mends 48 = .ok (.ishl, 1) := by decide +kernel
theorem dX10_mends_49 : decode cX10_mends 49 = .ok (.iconst (-1), 1) := by decide +kernel
theorem dX10_mends_50 : decode cX10_mends 50 = .ok (.ixor, 1) := by decide +kernel
theorem dX10_mends_51 : decode cX10_mends 51 = .ok (.iand, 1) := by decide +kernel
theorem dX10_mends_52 : decode cX10_mends 52 = .ok (.iastore, 1) := by decide +kernel
theorem dX10_mends_53 : decode cX10_mends 53 = .ok (.aload_n 0, 1) := by decide +kernel
theorem dX10_mends_54 : decode cX10_mends 54 = .ok (.getfield 16, 3) := by decide +kernel
theorem dX10_mends_57 : decode cX10_mends 57 = .ok (.iload_n 3, 1) := by decide +kernel
theorem dX10_mends_58 : decode cX10_mends 58 = .ok (.iaload, 1) := by decide +kernel
theorem dX10_mends_59 : decode cX10_mends 59 = .ok (.ireturn, 1) := by decide +kernel
theorem dX10_moves_0 : decode cX10_moves 0 = .ok (.iload_n 1, 1) := by decide +kernel
theorem dX10_moves_1 : decode cX10_moves 1 = .ok (.i2l, 1) := by decide +kernel
theorem dX10_moves_2 : decode cX10_moves 2 = .ok (.lconst 1, 1) := by decide +kernel
theorem dX10_moves_3 : decode cX10_moves 3 = .ok (.ldc2_w 211, 3) := by decide +kernel
theorem dX10_moves_6 : decode cX10_moves 6 = .ok (.invokestatic 81, 3) := by decide +kernel
theorem dX10_moves_9 : decode cX10_moves 9 = .ok (.ifCond .eq 15, 3) := by decide +kernel
theorem dX10_moves_12 : decode cX10_moves 12 = .ok (.iload_n 2, 1) := by decide +kernel
theorem dX10_moves_13 : decode cX10_moves 13 = .ok (.i2l, 1) := by decide +kernel
theorem dX10_moves_14 : decode cX10_moves 14 = .ok (.lconst 0, 1) := by decide +kernel
theorem dX10_moves_15 : decode cX10_moves 15 = .ok (.ldc2_w 213, 3) := by decide +kernel
theorem dX10_moves_18 : decode cX10_moves 18 = .ok (.invokestatic 81, 3) := by decide +kernel
theorem dX10_moves_21 : decode cX10_moves 21 = .ok (.ifCond .ne 5, 3) := by decide +kernel
theorem dX10_moves_24 : decode cX10_moves 24 = .ok (.iconst (-1), 1) := by decide +kernel
theorem dX10_moves_25 : decode cX10_moves 25 = .ok (.ireturn, 1) := by decide +kernel
theorem dX10_moves_26 : decode cX10_moves 26 = .ok (.aload_n 0, 1) := by decide +kernel
theorem dX10_moves_27 : decode cX10_moves 27 = .ok (.getfield 23, 3) := by decide +kernel
theorem dX10_moves_30 : decode cX10_moves 30 = .ok (.bipush 9, 2) := by decide +kernel
theorem dX10_moves_32 : decode cX10_moves 32 = .ok (.iaload, 1) := by decide +kernel
theorem dX10_moves_33 : decode cX10_moves 33 = .ok (.iload_n 1, 1) := by decide +kernel
theorem dX10_moves_34 : decode cX10_moves 34 = .ok (.if_icmp .ne 17, 3) := by decide +kernel
theorem dX10_moves_37 : decode cX10_moves 37 = .ok (.aload_n 0, 1) := by decide +kernel
theorem dX10_moves_38 : decode cX10_moves 38 = .ok (.getfield 23, 3) := by decide +kernel
theorem dX10_moves_41 : decode cX10_moves 41 = .ok (.bipush 10, 2) := by decide +kernel
theorem dX10_moves_43 : decode cX10_moves 43 = .ok (.iaload, 1) := by decide +kernel
theorem dX10_moves_44 : decode cX10_moves 44 = .ok (.iload_n 2, 1) := by decide +kernel
theorem dX10_moves_45 : decode cX10_moves 45 = .ok (.if_icmp .ne 6, 3) := by decide +kernel
theorem dX10_moves_48 : decode cX10_moves 48 = .ok (.bipush (-2), 2) := by decide +kernel
theorem dX10_moves_50 : decode cX10_moves 50 = .ok (.ireturn, 1) := by decide +kernel
theorem dX10_moves_51 : decode cX10_moves 51 = .ok (.aload_n 0, 1) := by decide +kernel
theorem dX10_moves_52 : decode cX10_moves 52 = .ok (.invokevirtual 204, 3) := by decide +kernel
theorem dX10_moves_55 : decode cX10_moves 55 = .ok (.aload_n 0, 1) := by decide +kernel
theorem dX10_moves_56 : decode cX10_moves 56 = .ok (.getfield 23, 3) := by decide +kernel
theorem dX10_moves_59 : decode cX10_moves 59 = .ok (.bipush 9, 2) := by decide +kernel
theorem dX10_moves_61 : decode cX10_moves 61 = .ok (.iload_n 1, 1) := by decide +kernel
theorem dX10_moves_62 : decode cX10_moves 62 = .ok (.iastore, 1) := by decide +kernel
theorem dX10_moves_63 : decode cX10_moves 63 = .ok (.aload_n 0, 1) := by decide +kernel
theorem dX10_moves_64 : decode cX10_moves 64 = .ok (.getfield 23, 3) := by decide +kernel
theorem dX10_moves_67 : decode cX10_moves 67 = .ok (.bipush 10, 2) := by decide +kernel
theorem dX10_moves_69 : decode cX10_moves 69 = .ok (.iload_n 2, 1) := by decide +kernel
theorem dX10_moves_70 : decode cX10_moves 70 = .ok (.iastore, 1) := by decide +kernel
theorem dX10_moves_71 : decode cX10_moves 71 = .ok (.iconst 0, 1) := by decide +kernel
theorem dX10_moves_72 : decode cX10_moves 72 = .ok (.istore_n 3, 1) := by decide +kernel
theorem dX10_moves_73 : decode cX10_moves 73 = .ok (.iconst 0, 1) := by decide +kernel
theorem dX10_moves_74 : decode cX10_moves 74 = .ok (.istore 4, 2) := by decide +kernel
theorem dX10_moves_76 : decode cX10_moves 76 = .ok (.iload 4, 2) := by decide +kernel
theorem dX10_moves_78 : decode cX10_moves 78 = .ok (.aload_n 0, 1) := by decide +kernel
theorem dX10_moves_79 : decode cX10_moves 79 = .ok (.getfield 7, 3) := by decide +kernel
theorem dX10_moves_82 : decode cX10_moves 82 = .ok (.if_icmp .ge 37, 3) := by decide +kernel
theorem dX10_moves_85 : decode cX10_moves 85 = .ok (.iload_n 3, 1) := by decide +kernel
theorem dX10_moves_86 : decode cX10_moves 86 = .ok (.iload 4, 2) := by decide +kernel
theorem dX10_moves_88 : decode cX10_moves 88 = .ok (.iload_n 1, 1) := by decide +kernel
theorem dX10_moves_89 : decode cX10_moves 89 = .ok (.if_icmp .lt 21, 3) := by decide +kernel
theorem dX10_moves_92 : decode cX10_moves 92 = .ok (.iconst 2, 1) := by decide +kernel
theorem dX10_moves_93 : decode cX10_moves 93 = .ok (.iload_n 1, 1) := by decide +kernel
theorem dX10_moves_94 : decode cX10_moves 94 = .ok (.imul, 1) := by decide +kernel
theorem dX10_moves_95 : decode cX10_moves 95 = .ok (.iconst 1, 1) := by decide +kernel
theorem dX10_moves_96 : decode cX10_moves 96 = .ok (.isub, 1) := by decide +kernel
theorem dX10_moves_97 : decode cX10_moves 97 = .ok (.iload 4, 2) := by decide +kernel
theorem dX10_moves_99 : decode cX10_moves 99 = .ok (.isub, 1) := by decide +kernel
theorem dX10_moves_100 : decode cX10_moves 100 = .ok (.ifCond .ge 10, 3) := by decide +kernel
theorem dX10_moves_103 : decode cX10_moves 103 = .ok (.aload_n 0, 1) := by decide +kernel
theorem dX10_moves_104 : decode cX10_moves 104 = .ok (.getfield 13, 3) := by decide +kernel
theorem dX10_moves_107 : decode cX10_moves 107 = .ok (.goto 4, 3) := by decide +kernel
theorem dX10_moves_110 : decode cX10_moves 110 = .ok (.iconst 0, 1) := by decide +kernel
theorem dX10_moves_111 : decode cX10_moves 111 = .ok (.iadd, 1) := by decide +kernel
theorem dX10_moves_112 : decode cX10_moves 112 = .ok (.istore_n 3, 1) := by decide +kernel
theorem dX10_moves_113 : decode cX10_moves 113 = .ok (.iinc 4 1, 3) := by decide +kernel
theorem dX10_moves_116 : decode cX10_moves 116 = .ok (.goto (-40), 3) := by decide +kernel
theorem dX10_moves_119 : decode cX10_moves 119 = .ok (.iload_n 3, 1) := by decide +kernel
theorem dX10_moves_120 : decode cX10_moves 120 = .ok (.ireturn, 1) := by decide +kernel
theorem dX10_undo_0 : decode cX10_undo 0 = .ok (.aload_n 0, 1) := by decide +kernel
theorem dX10_undo_1 : decode cX10_undo 1 = .ok (.getfield 73, 3) := by decide +kernel
theorem dX10_undo_4 : decode cX10_undo 4 = .ok (.ifCond .ne 6, 3) := by decide +kernel
theorem dX10_undo_7 : decode cX10_undo 7 = .ok (.bipush (-2), 2) := by decide +kernel
theorem dX10_undo_9 : decode cX10_undo 9 = .ok (.ireturn, 1) := by decide +kernel
theorem dX10_undo_10 : decode cX10_undo 10 = .ok (.aload_n 0, 1) := by decide +kernel
theorem dX10_undo_11 : decode cX10_undo 11 = .ok (.dup, 1) := by decide +kernel
theorem dX10_undo_12 : decode cX10_undo 12 = .ok (.getfield 73, 3) := by decide +kernel
theorem dX10_undo_15 : decode cX10_undo 15 = .ok (.iconst 1, 1) := by decide +kernel
theorem dX10_undo_16 : decode cX10_undo 16 = .ok (.isub, 1) := by decide +kernel
theorem dX10_undo_17 : decode cX10_undo 17 = .ok (.putfield 73, 3) := by decide +kernel
theorem dX10_undo_20 : decode cX10_undo 20 = .ok (.aload_n 0, 1) := by decide +kernel
theorem dX10_undo_21 : decode cX10_undo 21 = .ok (.getfield 29, 3) := by decide +kernel
theorem dX10_undo_24 : decode cX10_undo 24 = .ok (.bipush 11, 2) := by decide +kernel
theorem dX10_undo_26 : decode cX10_undo 26 = .ok (.aload_n 0, 1) := by decide +kernel
theorem dX10_undo_27 : decode cX10_undo 27 = .ok (.getfield 73, 3) := by decide +kernel
theorem dX10_undo_30 : decode cX10_undo 30 = .ok (.imul, 1) := by decide +kernel
theorem dX10_undo_31 : decode cX10_undo 31 = .ok (.aload_n 0, 1) := by decide +kernel
theorem dX10_undo_32 : decode cX10_undo 32 = .ok (.getfield 23, 3) := by decide +kernel
theorem dX10_undo_35 : decode cX10_undo 35 = .ok (.iconst 0, 1) := by decide +kernel
theorem dX10_undo_36 : decode cX10_undo 36 = .ok (.bipush 11, 2) := by decide +kernel
theorem dX10_undo_38 : decode cX10_undo 38 = .ok (.invokestatic 162, 3) := by decide +kernel
theorem dX10_undo_41 : decode cX10_undo 41 = .ok (.aload_n 0, 1) := by decide +kernel
theorem dX10_undo_42 : decode cX10_undo 42 = .ok (.getfield 73, 3) := by decide +kernel
theorem dX10_undo_45 : decode cX10_undo 45 = .ok (.ireturn, 1) := by decide +kernel
theorem dX10_layColours_0 : decode cX10_layColours 0 = .ok (.iconst 0, 1) := by decide +kernel
theorem dX10_layColours_1 : decode cX10_layColours 1 = .ok (.istore_n 1, 1) := by decide +kernel
theorem dX10_layColours_2 : decode cX10_layColours 2 = .ok (.iload_n 1, 1) := by decide +kernel
theorem dX10_layColours_3 : decode cX10_layColours 3 = .ok (.bipush 20, 2) := by decide +kernel
theorem dX10_layColours_5 : decode cX10_layColours 5 = .ok (.if_icmp .ge 40, 3) := by decide +kernel
theorem dX10_layColours_8 : decode cX10_layColours 8 = .ok (.aload_n 0, 1) := by decide +kernel
theorem dX10_layColours_9 : decode cX10_layColours 9 = .ok (.getfield 57, 3) := by decide +kernel
theorem dX10_layColours_12 : decode cX10_layColours 12 = .ok (.iload_n 1, 1) := by decide +kernel
theorem dX10_layColours_13 : decode cX10_layColours 13 = .ok (.aload_n 0, 1) := by decide +kernel
theorem dX10_layColours_14 : decode cX10_layColours 14 = .ok (.getfield 23, 3) := by decide +kernel
theorem dX10_layColours_17 : decode cX10_layColours 17 = .ok (.bipush 8, 2) := by decide +kernel
theorem dX10_layColours_19 : decode cX10_layColours 19 = .ok (.iaload, 1) := by decide +kernel
theorem dX10_layColours_20 : decode cX10_layColours 20 = .ok (.iload_n 1, 1) := by decide +kernel
theorem dX10_layColours_21 : decode cX10_layColours 21 = .ok (.invokestatic 172, 3) := by decide +kernel
theorem dX10_layColours_24 : decode cX10_layColours 24 = .ok (.ifCond .eq 8, 3) := by decide +kernel
theorem dX10_layColours_27 : decode cX10_layColours 27 = .ok (.bipush 7, 2) := by decide +kernel
theorem dX10_layColours_29 : decode cX10_layColours 29 = .ok (.goto 9, 3) := by decide +kernel
theorem dX10_layColours_32 : decode cX10_layColours 32 = .ok (.aload_n 0, 1) := by decide +kernel
theorem dX10_layColours_33 : decode cX10_layColours 33 = .ok (.getfield 16, 3) := by decide +kernel
theorem dX10_layColours_36 : decode cX10_layColours 36 = .ok (.iload_n 1, 1) := by decide +kernel
theorem dX10_layColours_37 : decode cX10_layColours 37 = .ok (.iaload, 1) := by decide +kernel
theorem dX10_layColours_38 : decode cX10_layColours 38 = .ok (.iastore, 1) := by decide +kernel
theorem dX10_layColours_39 : decode cX10_layColours 39 = .ok (.iinc 1 1, 3) := by decide +kernel
theorem dX10_layColours_42 : decode cX10_layColours 42 = .ok (.goto (-40), 3) := by decide +kernel
theorem dX10_layColours_45 : decode cX10_layColours 45 = .ok (.return_, 1) := by decide +kernel
theorem dX10_unlike_0 : decode cX10_unlike 0 = .ok (.aload_n 0, 1) := by decide +kernel
theorem dX10_unlike_1 : decode cX10_unlike 1 = .ok (.iload_n 3, 1) := by decide +kernel
theorem dX10_unlike_2 : decode cX10_unlike 2 = .ok (.iload 4, 2) := by decide +kernel
theorem dX10_unlike_4 : decode cX10_unlike 4 = .ok (.invokevirtual 183, 3) := by decide +kernel
theorem dX10_unlike_7 : decode cX10_unlike 7 = .ok (.ifCond .eq 31, 3) := by decide +kernel
theorem dX10_unlike_10 : decode cX10_unlike 10 = .ok (.aload_n 0, 1) := by decide +kernel
theorem dX10_unlike_11 : decode cX10_unlike 11 = .ok (.getfield 57, 3) := by decide +kernel
theorem dX10_unlike_14 : decode cX10_unlike 14 = .ok (.iconst 4, 1) := by decide +kernel
theorem dX10_unlike_15 : decode cX10_unlike 15 = .ok (.iload_n 1, 1) := by decide +kernel
theorem dX10_unlike_16 : decode cX10_unlike 16 = .ok (.imul, 1) := by decide +kernel
theorem dX10_unlike_17 : decode cX10_unlike 17 = .ok (.iload_n 2, 1) := by decide +kernel
theorem dX10_unlike_18 : decode cX10_unlike 18 = .ok (.iadd, 1) := by decide +kernel
theorem dX10_unlike_19 : decode cX10_unlike 19 = .ok (.iaload, 1) := by decide +kernel
theorem dX10_unlike_20 : decode cX10_unlike 20 = .ok (.aload_n 0, 1) := by decide +kernel
theorem dX10_unlike_21 : decode cX10_unlike 21 = .ok (.getfield 57, 3) := by decide +kernel
theorem dX10_unlike_24 : decode cX10_unlike 24 = .ok (.iconst 4, 1) := by decide +kernel
theorem dX10_unlike_25 : decode cX10_unlike 25 = .ok (.iload_n 3, 1) := by decide +kernel
theorem dX10_unlike_26 : decode cX10_unlike 26 = .ok (.imul, 1) := by decide +kernel
theorem dX10_unlike_27 : decode cX10_unlike 27 = .ok (.iload 4, 2) := by decide +kernel
theorem dX10_unlike_29 : decode cX10_unlike 29 = .ok (.iadd, 1) := by decide +kernel
theorem dX10_unlike_30 : decode cX10_unlike 30 = .ok (.iaload, 1) := by decide +kernel
theorem dX10_unlike_31 : decode cX10_unlike 31 = .ok (.if_icmp .eq 7, 3) := by decide +kernel
theorem dX10_unlike_34 : decode cX10_unlike 34 = .ok (.iconst 1, 1) := by decide +kernel
theorem dX10_unlike_35 : decode cX10_unlike 35 = .ok (.goto 4, 3) := by decide +kernel
theorem dX10_unlike_38 : decode cX10_unlike 38 = .ok (.iconst 0, 1) := by decide +kernel
theorem dX10_unlike_39 : decode cX10_unlike 39 = .ok (.ireturn, 1) := by decide +kernel
theorem dX10_leads_0 : decode cX10_leads 0 = .ok (.iconst 0, 1) := by decide +kernel
theorem dX10_leads_1 : decode cX10_leads 1 = .ok (.istore_n 1, 1) := by decide +kernel
theorem dX10_leads_2 : decode cX10_leads 2 = .ok (.iconst 0, 1) := by decide +kernel
theorem dX10_leads_3 : decode cX10_leads 3 = .ok (.istore_n 2, 1) := by decide +kernel
theorem dX10_leads_4 : decode cX10_leads 4 = .ok (.iload_n 2, 1) := by decide +kernel
theorem dX10_leads_5 : decode cX10_leads 5 = .ok (.aload_n 0, 1) := by decide +kernel
theorem dX10_leads_6 : decode cX10_leads 6 = .ok (.getfield 7, 3) := by decide +kernel
theorem dX10_leads_9 : decode cX10_leads 9 = .ok (.if_icmp .ge 67, 3) := by decide +kernel
theorem dX10_leads_12 : decode cX10_leads 12 = .ok (.iconst 0, 1) := by decide +kernel
theorem dX10_leads_13 : decode cX10_leads 13 = .ok (.istore_n 3, 1) := by decide +kernel
theorem dX10_leads_14 : decode cX10_leads 14 = .ok (.iload_n 3, 1) := by decide +kernel
theorem dX10_leads_15 : decode cX10_leads 15 = .ok (.aload_n 0, 1) := by decide +kernel
theorem dX10_leads_16 : decode cX10_leads 16 = .ok (.getfield 13, 3) := by decide +kernel
theorem dX10_leads_19 : decode cX10_leads 19 = .ok (.if_icmp .ge 51, 3) := by decide +kernel
theorem dX10_leads_22 : decode cX10_leads 22 = .ok (.iload_n 1, 1) := by decide +kernel
theorem dX10_leads_23 : decode cX10_leads 23 = .ok (.aload_n 0, 1) := by decide +kernel
theorem dX10_leads_24 : decode cX10_leads 24 = .ok (.iload_n 2, 1) := by decide +kernel
theorem dX10_leads_25 : decode cX10_leads 25 = .ok (.iload_n 3, 1) := by decide +kernel
theorem dX10_leads_26 : decode cX10_leads 26 = .ok (.iload_n 2, 1) := by decide +kernel
theorem dX10_leads_27 : decode cX10_leads 27 = .ok (.iconst 1, 1) := by decide +kernel
theorem dX10_leads_28 : decode cX10_leads 28 = .ok (.iadd, 1) := by decide +kernel
theorem dX10_leads_29 : decode cX10_leads 29 = .ok (.iload_n 3, 1) := by decide +kernel
theorem dX10_leads_30 : decode cX10_leads 30 = .ok (.invokevirtual 215, 3) := by decide +kernel
theorem dX10_leads_33 : decode cX10_leads 33 = .ok (.ifCond .eq 7, 3) := by decide +kernel
theorem dX10_leads_36 : decode cX10_leads 36 = .ok (.iconst 1, 1) := by decide +kernel
theorem dX10_leads_37 : decode cX10_leads 37 = .ok (.goto 4, 3) := by decide +kernel
theorem dX10_leads_40 : decode cX10_leads 40 = .ok (.iconst 0, 1) := by decide +kernel
theorem dX10_leads_41 : decode cX10_leads 41 = .ok (.iadd, 1) := by decide +kernel
theorem dX10_leads_42 : decode cX10_leads 42 = .ok (.istore_n 1, 1) := by decide +kernel
theorem dX10_leads_43 : decode cX10_leads 43 = .ok (.iload_n 1, 1) := by decide +kernel
theorem dX10_leads_44 : decode cX10_leads 44 = .ok (.aload_n 0, 1) := by decide +kernel
theorem dX10_leads_45 : decode cX10_leads 45 = .ok (.iload_n 2, 1) := by decide +kernel
theorem dX10_leads_46 : decode cX10_leads 46 = .ok (.iload_n 3, 1) := by decide +kernel
theorem dX10_leads_47 : decode cX10_leads 47 = .ok (.iload_n 2, 1) := by decide +kernel
theorem dX10_leads_48 : decode cX10_leads 48 = .ok (.iload_n 3, 1) := by decide +kernel
theorem dX10_leads_49 : decode cX10_leads 49 = .ok (.iconst 1, 1) := by decide +kernel
theorem dX10_leads_50 : decode cX10_leads 50 = .ok (.iadd, 1) := by decide +kernel
theorem dX10_leads_51 : decode cX10_leads 51 = .ok (.invokevirtual 215, 3) := by decide +kernel
theorem dX10_leads_54 : decode cX10_leads 54 = .ok (.ifCond .eq 7, 3) := by decide +kernel
theorem dX10_leads_57 : decode cX10_leads 57 = .ok (.iconst 1, 1) := by decide +kernel
theorem dX10_leads_58 : decode cX10_leads 58 = .ok (.goto 4, 3) := by decide +kernel
theorem dX10_leads_61 : decode cX10_leads 61 = .ok (.iconst 0, 1) := by decide +kernel
theorem dX10_leads_62 : decode cX10_leads 62 = .ok (.iadd, 1) := by decide +kernel
theorem dX10_leads_63 : decode cX10_leads 63 = .ok (.istore_n 1, 1) := by decide +kernel
theorem dX10_leads_64 : decode cX10_leads 64 = .ok (.iinc 3 1, 3) := by decide +kernel
theorem dX10_leads_67 : decode cX10_leads 67 = .ok (.goto (-53), 3) := by decide +kernel
theorem dX10_leads_70 : decode cX10_leads 70 = .ok (.iinc 2 1, 3) := by decide +kernel
theorem dX10_leads_73 : decode cX10_leads 73 = .ok (.goto (-69), 3) := by decide +kernel
theorem dX10_leads_76 : decode cX10_leads 76 = .ok (.iload_n 1, 1) := by decide +kernel
theorem dX10_leads_77 : decode cX10_leads 77 = .ok (.ireturn, 1) := by decide +kernel
theorem dX10_partFrom_0 : decode cX10_partFrom 0 = .ok (.aload_n 0, 1) := by decide +kernel
theorem dX10_partFrom_1 : decode cX10_partFrom 1 = .ok (.getfield 57, 3) := by decide +kernel
theorem dX10_partFrom_4 : decode cX10_partFrom 4 = .ok (.iload_n 1, 1) := by decide +kernel
theorem dX10_partFrom_5 : decode cX10_partFrom 5 = .ok (.iaload, 1) := by decide +kernel
theorem dX10_partFrom_6 : decode cX10_partFrom 6 = .ok (.istore_n 2, 1) := by decide +kernel
theorem dX10_partFrom_7 : decode cX10_partFrom 7 = .ok (.iconst 1, 1) := by decide +kernel
theorem dX10_partFrom_8 : decode cX10_partFrom 8 = .ok (.istore_n 3, 1) := by decide +kernel
theorem dX10_partFrom_9 : decode cX10_partFrom 9 = .ok (.aload_n 0, 1) := by decide +kernel
theorem dX10_partFrom_10 : decode cX10_partFrom 10 = .ok (.getfield 60, 3) := by decide +kernel
theorem dX10_partFrom_13 : decode cX10_partFrom 13 = .ok (.iconst 0, 1) := by decide +kernel
theorem dX10_partFrom_14 : decode cX10_partFrom 14 = .ok (.iload_n 1, 1) := by decide +kernel
theorem dX10_partFrom_15 : decode cX10_partFrom 15 = .ok (.iastore, 1) := by decide +kernel
theorem dX10_partFrom_16 : decode cX10_partFrom 16 = .ok (.aload_n 0, 1) := by decide +kernel
theorem dX10_partFrom_17 : decode cX10_partFrom 17 = .ok (.getfield 57, 3) := by decide +kernel
theorem dX10_partFrom_20 : decode cX10_partFrom 20 = .ok (.iload_n 1, 1) := by decide +kernel
theorem dX10_partFrom_21 : decode cX10_partFrom 21 = .ok (.iconst (-1), 1) := by decide +kernel
theorem dX10_partFrom_22 : decode cX10_partFrom 22 = .ok (.iastore, 1) := by decide +kernel
theorem dX10_partFrom_23 : decode cX10_partFrom 23 = .ok (.iconst 0, 1) := by decide +kernel
theorem dX10_partFrom_24 : decode cX10_partFrom 24 = .ok (.istore 4, 2) := by decide +kernel
theorem dX10_partFrom_26 : decode cX10_partFrom 26 = .ok (.iload 4, 2) := by decide +kernel
theorem dX10_partFrom_28 : decode cX10_partFrom 28 = .ok (.iload_n 3, 1) := by decide +kernel
theorem dX10_partFrom_29 : decode cX10_partFrom 29 = .ok (.if_icmp .ge 145, 3) := by decide +kernel
theorem dX10_partFrom_32 : decode cX10_partFrom 32 = .ok (.iconst 0, 1) := by decide +kernel
theorem dX10_partFrom_33 : decode cX10_partFrom 33 = .ok (.istore 5, 2) := by decide +kernel
theorem dX10_partFrom_35 : decode cX10_partFrom 35 = .ok (.iload 5, 2) := by decide +kernel
theorem dX10_partFrom_37 : decode cX10_partFrom 37 = .ok (.iconst 4, 1) := by decide +kernel
theorem dX10_partFrom_38 : decode cX10_partFrom 38 = .ok (.if_icmp .ge 130, 3) := by decide +kernel
theorem dX10_partFrom_41 : decode cX10_partFrom 41 = .ok (.aload_n 0, 1) := by decide +kernel
theorem dX10_partFrom_42 : decode cX10_partFrom 42 = .ok (.getfield 60, 3) := by decide +kernel
theorem dX10_partFrom_45 : decode cX10_partFrom 45 = .ok (.iload 4, 2) := by decide +kernel
theorem dX10_partFrom_47 : decode cX10_partFrom 47 = .ok (.iaload, 1) := by decide +kernel
theorem dX10_partFrom_48 : decode cX10_partFrom 48 = .ok (.iconst 4, 1) := by decide +kernel
theorem dX10_partFrom_49 : decode cX10_partFrom 49 = .ok (.idiv, 1) := by decide +kernel
theorem dX10_partFrom_50 : decode cX10_partFrom 50 = .ok (.iload 5, 2) := by decide +kernel
theorem dX10_partFrom_52 : decode cX10_partFrom 52 = .ok (.ifCond .ne 7, 3) := by decide +kernel
theorem dX10_partFrom_55 : decode cX10_partFrom 55 = .ok (.iconst 1, 1) := by decide +kernel
theorem dX10_partFrom_56 : decode cX10_partFrom 56 = .ok (.goto 14, 3) := by decide +kernel
theorem dX10_partFrom_59 : decode cX10_partFrom 59 = .ok (.iload 5, 2) := by decide +kernel
theorem dX10_partFrom_61 : decode cX10_partFrom 61 = .ok (.iconst 1, 1) := by decide +kernel
theorem dX10_partFrom_62 : decode cX10_partFrom 62 = .ok (.if_icmp .ne 7, 3) := by decide +kernel
theorem dX10_partFrom_65 : decode cX10_partFrom 65 = .ok (.iconst (-1), 1) := by decide +kernel
theorem dX10_partFrom_66 : decode cX10_partFrom 66 = .ok (.goto 4, 3) := by decide +kernel
theorem dX10_partFrom_69 : decode cX10_partFrom 69 = .ok (.iconst 0, 1) := by decide +kernel
theorem dX10_partFrom_70 : decode cX10_partFrom 70 = .ok (.iadd, 1) := by decide +kernel
theorem dX10_partFrom_71 : decode cX10_partFrom 71 = .ok (.istore 6, 2) := by decide +kernel
theorem dX10_partFrom_73 : decode cX10_partFrom 73 = .ok (.aload_n 0, 1) := by decide +kernel
theorem dX10_partFrom_74 : decode cX10_partFrom 74 = .ok (.getfield 60, 3) := by decide +kernel
theorem dX10_partFrom_77 : decode cX10_partFrom 77 = .ok (.iload 4, 2) := by decide +kernel
theorem dX10_partFrom_79 : decode cX10_partFrom 79 = .ok (.iaload, 1) := by decide +kernel
theorem dX10_partFrom_80 : decode cX10_partFrom 80 = .ok (.iconst 4, 1) := by decide +kernel
theorem dX10_partFrom_81 : decode cX10_partFrom 81 = .ok (.irem, 1) := by decide +kernel
theorem dX10_partFrom_82 : decode cX10_partFrom 82 = .ok (.iload 5, 2) := by decide +kernel
theorem dX10_partFrom_84 : decode cX10_partFrom 84 = .ok (.iconst 2, 1) := by decide +kernel
theorem dX10_partFrom_85 : decode cX10_partFrom 85 = .ok (.if_icmp .ne 7, 3) := by decide +kernel
theorem dX10_partFrom_88 : decode cX10_partFrom 88 = .ok (.iconst 1, 1) := by decide +kernel
theorem dX10_partFrom_89 : decode cX10_partFrom 89 = .ok (.goto 14, 3) := by decide +kernel
theorem dX10_partFrom_92 : decode cX10_partFrom 92 = .ok (.iload 5, 2) := by decide +kernel
theorem dX10_partFrom_94 : decode cX10_partFrom 94 = .ok (.iconst 3, 1) := by decide +kernel
theorem dX10_partFrom_95 : decode cX10_partFrom 95 = .ok (.if_icmp .ne 7, 3) := by decide +kernel
theorem dX10_partFrom_98 : decode cX10_partFrom 98 = .ok (.iconst (-1), 1) := by decide +kernel
theorem dX10_partFrom_99 : decode cX10_partFrom 99 = .ok (.goto 4, 3) := by decide +kernel
theorem dX10_partFrom_102 : decode cX10_partFrom 102 = .ok (.iconst 0, 1) := by decide +kernel
theorem dX10_partFrom_103 : decode cX10_partFrom 103 = .ok (.iadd, 1) := by decide +kernel
theorem dX10_partFrom_104 : decode cX10_partFrom 104 = .ok (.istore 7, 2) := by decide +kernel
theorem dX10_partFrom_106 : decode cX10_partFrom 106 = .ok (.aload_n 0, 1) := by decide +kernel
theorem dX10_partFrom_107 : decode cX10_partFrom 107 = .ok (.iload 6, 2) := by decide +kernel
theorem dX10_partFrom_109 : decode cX10_partFrom 109 = .ok (.iload 7, 2) := by decide +kernel
theorem dX10_partFrom_111 : decode cX10_partFrom 111 = .ok (.invokevirtual 183, 3) := by decide +kernel
theorem dX10_partFrom_114 : decode cX10_partFrom 114 = .ok (.ifCond .eq 48, 3) := by decide +kernel
theorem dX10_partFrom_117 : decode cX10_partFrom 117 = .ok (.aload_n 0, 1) := by decide +kernel
theorem dX10_partFrom_118 : decode cX10_partFrom 118 = .ok (.getfield 57, 3) := by decide +kernel
theorem dX10_partFrom_121 : decode cX10_partFrom 121 = .ok (.iconst 4, 1) := by decide +kernel
theorem dX10_partFrom_122 : decode cX10_partFrom 122 = .ok (.iload 6, 2) := by decide +kernel
theorem dX10_partFrom_124 : decode cX10_partFrom 124 = .ok (.imul, 1) := by decide +kernel
theorem dX10_partFrom_125 : decode cX10_partFrom 125 = .ok (.iload 7, 2) := by decide +kernel
theorem dX10_partFrom_127 : decode cX10_partFrom 127 = .ok (.iadd, 1) := by decide +kernel
theorem dX10_partFrom_128 : decode cX10_partFrom 128 = .ok (.iaload, 1) := by decide +kernel
theorem dX10_partFrom_129 : decode cX10_partFrom 129 = .ok (.iload_n 2, 1) := by decide +kernel
theorem dX10_partFrom_130 : decode cX10_partFrom 130 = .ok (.if_icmp .ne 32, 3) := by decide +kernel
theorem dX10_partFrom_133 : decode cX10_partFrom 133 = .ok (.aload_n 0, 1) := by decide +kernel
theorem dX10_partFrom_134 : decode cX10_partFrom 134 = .ok (.getfield 57, 3) := by decide +kernel
theorem dX10_partFrom_137 : decode cX10_partFrom 137 = .ok (.iconst 4, 1) := by decide +kernel
end
section
theorem dX10_partFrom_138 : decode cX10_partFrom 138 = .ok (.iload 6, 2) := by decide +kernel
theorem dX10_partFrom_140 : decode cX10_partFrom 140 = .ok (.imul, 1) := by decide +kernel
theorem dX10_partFrom_141 : decode cX10_partFrom 141 = .ok (.iload 7, 2) := by decide +kernel
theorem dX10_partFrom_143 : decode cX10_partFrom 143 = .ok (.iadd, 1) := by decide +kernel
theorem dX10_partFrom_144 : decode cX10_partFrom 144 = .ok (.iconst (-1), 1) := by decide +kernel
theorem dX10_partFrom_145 : decode cX10_partFrom 145 = .ok (.iastore, 1) := by decide +kernel
theorem dX10_partFrom_146 : decode cX10_partFrom 146 = .ok (.aload_n 0, 1) := by decide +kernel
theorem dX10_partFrom_147 : decode cX10_partFrom 147 = .ok (.getfield 60, 3) := by decide +kernel
theorem dX10_partFrom_150 : decode cX10_partFrom 150 = .ok (.iload_n 3, 1) := by decide +kernel
theorem dX10_partFrom_151 : decode cX10_partFrom 151 = .ok (.iconst 4, 1) := by decide +kernel
theorem dX10_partFrom_152 : decode cX10_partFrom 152 = .ok (.iload 6, 2) := by decide +kernel
theorem dX10_partFrom_154 : decode cX10_partFrom 154 = .ok (.imul, 1) := by decide +kernel
theorem dX10_partFrom_155 : decode cX10_partFrom 155 = .ok (.iload 7, 2) := by decide +kernel
theorem dX10_partFrom_157 : decode cX10_partFrom 157 = .ok (.iadd, 1) := by decide +kernel
theorem dX10_partFrom_158 : decode cX10_partFrom 158 = .ok (.iastore, 1) := by decide +kernel
theorem dX10_partFrom_159 : decode cX10_partFrom 159 = .ok (.iinc 3 1, 3) := by decide +kernel
theorem dX10_partFrom_162 : decode cX10_partFrom 162 = .ok (.iinc 5 1, 3) := by decide +kernel
theorem dX10_partFrom_165 : decode cX10_partFrom 165 = .ok (.goto (-130), 3) := by decide +kernel
theorem dX10_partFrom_168 : decode cX10_partFrom 168 = .ok (.iinc 4 1, 3) := by decide +kernel
theorem dX10_partFrom_171 : decode cX10_partFrom 171 = .ok (.goto (-145), 3) := by decide +kernel
theorem dX10_partFrom_174 : decode cX10_partFrom 174 = .ok (.iload_n 3, 1) := by decide +kernel
theorem dX10_partFrom_175 : decode cX10_partFrom 175 = .ok (.ireturn, 1) := by decide +kernel
theorem dX10_parts_0 : decode cX10_parts 0 = .ok (.aload_n 0, 1) := by decide +kernel
theorem dX10_parts_1 : decode cX10_parts 1 = .ok (.invokevirtual 219, 3) := by decide +kernel
theorem dX10_parts_4 : decode cX10_parts 4 = .ok (.iconst 0, 1) := by decide +kernel
theorem dX10_parts_5 : decode cX10_parts 5 = .ok (.istore_n 2, 1) := by decide +kernel
theorem dX10_parts_6 : decode cX10_parts 6 = .ok (.iconst 0, 1) := by decide +kernel
theorem dX10_parts_7 : decode cX10_parts 7 = .ok (.istore_n 3, 1) := by decide +kernel
theorem dX10_parts_8 : decode cX10_parts 8 = .ok (.iconst 0, 1) := by decide +kernel
theorem dX10_parts_9 : decode cX10_parts 9 = .ok (.istore 4, 2) := by decide +kernel
theorem dX10_parts_11 : decode cX10_parts 11 = .ok (.iload 4, 2) := by decide +kernel
theorem dX10_parts_13 : decode cX10_parts 13 = .ok (.aload_n 0, 1) := by decide +kernel
theorem dX10_parts_14 : decode cX10_parts 14 = .ok (.getfield 7, 3) := by decide +kernel
theorem dX10_parts_17 : decode cX10_parts 17 = .ok (.if_icmp .ge 71, 3) := by decide +kernel
theorem dX10_parts_20 : decode cX10_parts 20 = .ok (.iconst 0, 1) := by decide +kernel
theorem dX10_parts_21 : decode cX10_parts 21 = .ok (.istore 5, 2) := by decide +kernel
theorem dX10_parts_23 : decode cX10_parts 23 = .ok (.iload 5, 2) := by decide +kernel
theorem dX10_parts_25 : decode cX10_parts 25 = .ok (.aload_n 0, 1) := by decide +kernel
theorem dX10_parts_26 : decode cX10_parts 26 = .ok (.getfield 13, 3) := by decide +kernel
theorem dX10_parts_29 : decode cX10_parts 29 = .ok (.if_icmp .ge 53, 3) := by decide +kernel
theorem dX10_parts_32 : decode cX10_parts 32 = .ok (.aload_n 0, 1) := by decide +kernel
theorem dX10_parts_33 : decode cX10_parts 33 = .ok (.getfield 57, 3) := by decide +kernel
theorem dX10_parts_36 : decode cX10_parts 36 = .ok (.iconst 4, 1) := by decide +kernel
theorem dX10_parts_37 : decode cX10_parts 37 = .ok (.iload 4, 2) := by decide +kernel
theorem dX10_parts_39 : decode cX10_parts 39 = .ok (.imul, 1) := by decide +kernel
theorem dX10_parts_40 : decode cX10_parts 40 = .ok (.iload 5, 2) := by decide +kernel
theorem dX10_parts_42 : decode cX10_parts 42 = .ok (.iadd, 1) := by decide +kernel
theorem dX10_parts_43 : decode cX10_parts 43 = .ok (.iaload, 1) := by decide +kernel
theorem dX10_parts_44 : decode cX10_parts 44 = .ok (.ifCond .lt 32, 3) := by decide +kernel
theorem dX10_parts_47 : decode cX10_parts 47 = .ok (.aload_n 0, 1) := by decide +kernel
theorem dX10_parts_48 : decode cX10_parts 48 = .ok (.iconst 4, 1) := by decide +kernel
theorem dX10_parts_49 : decode cX10_parts 49 = .ok (.iload 4, 2) := by decide +kernel
theorem dX10_parts_51 : decode cX10_parts 51 = .ok (.imul, 1) := by decide +kernel
theorem dX10_parts_52 : decode cX10_parts 52 = .ok (.iload 5, 2) := by decide +kernel
theorem dX10_parts_54 : decode cX10_parts 54 = .ok (.iadd, 1) := by decide +kernel
theorem dX10_parts_55 : decode cX10_parts 55 = .ok (.invokevirtual 222, 3) := by decide +kernel
theorem dX10_parts_58 : decode cX10_parts 58 = .ok (.istore 6, 2) := by decide +kernel
theorem dX10_parts_60 : decode cX10_parts 60 = .ok (.iinc 2 1, 3) := by decide +kernel
theorem dX10_parts_63 : decode cX10_parts 63 = .ok (.iload 6, 2) := by decide +kernel
theorem dX10_parts_65 : decode cX10_parts 65 = .ok (.iload_n 3, 1) := by decide +kernel
theorem dX10_parts_66 : decode cX10_parts 66 = .ok (.if_icmp .le 8, 3) := by decide +kernel
theorem dX10_parts_69 : decode cX10_parts 69 = .ok (.iload 6, 2) := by decide +kernel
theorem dX10_parts_71 : decode cX10_parts 71 = .ok (.goto 4, 3) := by decide +kernel
theorem dX10_parts_74 : decode cX10_parts 74 = .ok (.iload_n 3, 1) := by decide +kernel
theorem dX10_parts_75 : decode cX10_parts 75 = .ok (.istore_n 3, 1) := by decide +kernel
theorem dX10_parts_76 : decode cX10_parts 76 = .ok (.iinc 5 1, 3) := by decide +kernel
theorem dX10_parts_79 : decode cX10_parts 79 = .ok (.goto (-56), 3) := by decide +kernel
theorem dX10_parts_82 : decode cX10_parts 82 = .ok (.iinc 4 1, 3) := by decide +kernel
theorem dX10_parts_85 : decode cX10_parts 85 = .ok (.goto (-74), 3) := by decide +kernel
theorem dX10_parts_88 : decode cX10_parts 88 = .ok (.iload_n 1, 1) := by decide +kernel
theorem dX10_parts_89 : decode cX10_parts 89 = .ok (.ifCond .eq 7, 3) := by decide +kernel
theorem dX10_parts_92 : decode cX10_parts 92 = .ok (.iload_n 3, 1) := by decide +kernel
theorem dX10_parts_93 : decode cX10_parts 93 = .ok (.goto 4, 3) := by decide +kernel
theorem dX10_parts_96 : decode cX10_parts 96 = .ok (.iload_n 2, 1) := by decide +kernel
theorem dX10_parts_97 : decode cX10_parts 97 = .ok (.ireturn, 1) := by decide +kernel
theorem dX10_leadsNow_0 : decode cX10_leadsNow 0 = .ok (.aload_n 0, 1) := by decide +kernel
theorem dX10_leadsNow_1 : decode cX10_leadsNow 1 = .ok (.invokevirtual 219, 3) := by decide +kernel
theorem dX10_leadsNow_4 : decode cX10_leadsNow 4 = .ok (.aload_n 0, 1) := by decide +kernel
theorem dX10_leadsNow_5 : decode cX10_leadsNow 5 = .ok (.invokevirtual 225, 3) := by decide +kernel
theorem dX10_leadsNow_8 : decode cX10_leadsNow 8 = .ok (.ireturn, 1) := by decide +kernel
theorem dX10_now_0 : decode cX10_now 0 = .ok (.iload_n 1, 1) := by decide +kernel
theorem dX10_now_1 : decode cX10_now 1 = .ok (.tableswitch 95 0 6 #[43, 51, 59, 67, 78, 83, 89], 43) := by decide +kernel
theorem dX10_now_44 : decode cX10_now 44 = .ok (.aload_n 0, 1) := by decide +kernel
theorem dX10_now_45 : decode cX10_now 45 = .ok (.getfield 23, 3) := by decide +kernel
theorem dX10_now_48 : decode cX10_now 48 = .ok (.bipush 9, 2) := by decide +kernel
theorem dX10_now_50 : decode cX10_now 50 = .ok (.iaload, 1) := by decide +kernel
theorem dX10_now_51 : decode cX10_now 51 = .ok (.ireturn, 1) := by decide +kernel
theorem dX10_now_52 : decode cX10_now 52 = .ok (.aload_n 0, 1) := by decide +kernel
theorem dX10_now_53 : decode cX10_now 53 = .ok (.getfield 23, 3) := by decide +kernel
theorem dX10_now_56 : decode cX10_now 56 = .ok (.bipush 10, 2) := by decide +kernel
theorem dX10_now_58 : decode cX10_now 58 = .ok (.iaload, 1) := by decide +kernel
theorem dX10_now_59 : decode cX10_now 59 = .ok (.ireturn, 1) := by decide +kernel
theorem dX10_now_60 : decode cX10_now 60 = .ok (.aload_n 0, 1) := by decide +kernel
theorem dX10_now_61 : decode cX10_now 61 = .ok (.getfield 23, 3) := by decide +kernel
theorem dX10_now_64 : decode cX10_now 64 = .ok (.bipush 8, 2) := by decide +kernel
theorem dX10_now_66 : decode cX10_now 66 = .ok (.iaload, 1) := by decide +kernel
theorem dX10_now_67 : decode cX10_now 67 = .ok (.ireturn, 1) := by decide +kernel
theorem dX10_now_68 : decode cX10_now 68 = .ok (.aload_n 0, 1) := by decide +kernel
theorem dX10_now_69 : decode cX10_now 69 = .ok (.aload_n 0, 1) := by decide +kernel
theorem dX10_now_70 : decode cX10_now 70 = .ok (.getfield 23, 3) := by decide +kernel
theorem dX10_now_73 : decode cX10_now 73 = .ok (.bipush (-9), 2) := by decide +kernel
theorem dX10_now_75 : decode cX10_now 75 = .ok (.invokevirtual 175, 3) := by decide +kernel
theorem dX10_now_78 : decode cX10_now 78 = .ok (.ireturn, 1) := by decide +kernel
theorem dX10_now_79 : decode cX10_now 79 = .ok (.aload_n 0, 1) := by decide +kernel
theorem dX10_now_80 : decode cX10_now 80 = .ok (.invokevirtual 229, 3) := by decide +kernel
theorem dX10_now_83 : decode cX10_now 83 = .ok (.ireturn, 1) := by decide +kernel
theorem dX10_now_84 : decode cX10_now 84 = .ok (.aload_n 0, 1) := by decide +kernel
theorem dX10_now_85 : decode cX10_now 85 = .ok (.iconst 0, 1) := by decide +kernel
theorem dX10_now_86 : decode cX10_now 86 = .ok (.invokevirtual 232, 3) := by decide +kernel
theorem dX10_now_89 : decode cX10_now 89 = .ok (.ireturn, 1) := by decide +kernel
theorem dX10_now_90 : decode cX10_now 90 = .ok (.aload_n 0, 1) := by decide +kernel
theorem dX10_now_91 : decode cX10_now 91 = .ok (.iconst 1, 1) := by decide +kernel
theorem dX10_now_92 : decode cX10_now 92 = .ok (.invokevirtual 232, 3) := by decide +kernel
theorem dX10_now_95 : decode cX10_now 95 = .ok (.ireturn, 1) := by decide +kernel
theorem dX10_now_96 : decode cX10_now 96 = .ok (.iconst (-1), 1) := by decide +kernel
theorem dX10_now_97 : decode cX10_now 97 = .ok (.ireturn, 1) := by decide +kernel
theorem dX10_paint_0 : decode cX10_paint 0 = .ok (.iload_n 1, 1) := by decide +kernel
theorem dX10_paint_1 : decode cX10_paint 1 = .ok (.i2l, 1) := by decide +kernel
theorem dX10_paint_2 : decode cX10_paint 2 = .ok (.lconst 0, 1) := by decide +kernel
theorem dX10_paint_3 : decode cX10_paint 3 = .ok (.lconst 1, 1) := by decide +kernel
theorem dX10_paint_4 : decode cX10_paint 4 = .ok (.invokestatic 81, 3) := by decide +kernel
theorem dX10_paint_7 : decode cX10_paint 7 = .ok (.ifCond .ne 5, 3) := by decide +kernel
theorem dX10_paint_10 : decode cX10_paint 10 = .ok (.iconst (-1), 1) := by decide +kernel
theorem dX10_paint_11 : decode cX10_paint 11 = .ok (.ireturn, 1) := by decide +kernel
theorem dX10_paint_12 : decode cX10_paint 12 = .ok (.aload_n 0, 1) := by decide +kernel
theorem dX10_paint_13 : decode cX10_paint 13 = .ok (.invokevirtual 219, 3) := by decide +kernel
theorem dX10_paint_16 : decode cX10_paint 16 = .ok (.bipush (-9), 2) := by decide +kernel
theorem dX10_paint_18 : decode cX10_paint 18 = .ok (.istore_n 2, 1) := by decide +kernel
theorem dX10_paint_19 : decode cX10_paint 19 = .ok (.ldc 236, 2) := by decide +kernel
theorem dX10_paint_21 : decode cX10_paint 21 = .ok (.istore_n 3, 1) := by decide +kernel
theorem dX10_paint_22 : decode cX10_paint 22 = .ok (.iconst 0, 1) := by decide +kernel
theorem dX10_paint_23 : decode cX10_paint 23 = .ok (.istore 4, 2) := by decide +kernel
theorem dX10_paint_25 : decode cX10_paint 25 = .ok (.iload 4, 2) := by decide +kernel
theorem dX10_paint_27 : decode cX10_paint 27 = .ok (.aload_n 0, 1) := by decide +kernel
theorem dX10_paint_28 : decode cX10_paint 28 = .ok (.getfield 7, 3) := by decide +kernel
theorem dX10_paint_31 : decode cX10_paint 31 = .ok (.if_icmp .ge 129, 3) := by decide +kernel
theorem dX10_paint_34 : decode cX10_paint 34 = .ok (.iconst 0, 1) := by decide +kernel
theorem dX10_paint_35 : decode cX10_paint 35 = .ok (.istore 5, 2) := by decide +kernel
theorem dX10_paint_37 : decode cX10_paint 37 = .ok (.iload 5, 2) := by decide +kernel
theorem dX10_paint_39 : decode cX10_paint 39 = .ok (.aload_n 0, 1) := by decide +kernel
theorem dX10_paint_40 : decode cX10_paint 40 = .ok (.getfield 13, 3) := by decide +kernel
theorem dX10_paint_43 : decode cX10_paint 43 = .ok (.if_icmp .ge 111, 3) := by decide +kernel
theorem dX10_paint_46 : decode cX10_paint 46 = .ok (.iconst 4, 1) := by decide +kernel
theorem dX10_paint_47 : decode cX10_paint 47 = .ok (.iload 4, 2) := by decide +kernel
theorem dX10_paint_49 : decode cX10_paint 49 = .ok (.imul, 1) := by decide +kernel
theorem dX10_paint_50 : decode cX10_paint 50 = .ok (.iload 5, 2) := by decide +kernel
theorem dX10_paint_52 : decode cX10_paint 52 = .ok (.iadd, 1) := by decide +kernel
theorem dX10_paint_53 : decode cX10_paint 53 = .ok (.istore 6, 2) := by decide +kernel
theorem dX10_paint_55 : decode cX10_paint 55 = .ok (.aload_n 0, 1) := by decide +kernel
theorem dX10_paint_56 : decode cX10_paint 56 = .ok (.getfield 57, 3) := by decide +kernel
theorem dX10_paint_59 : decode cX10_paint 59 = .ok (.iload 6, 2) := by decide +kernel
theorem dX10_paint_61 : decode cX10_paint 61 = .ok (.iaload, 1) := by decide +kernel
theorem dX10_paint_62 : decode cX10_paint 62 = .ok (.istore 7, 2) := by decide +kernel
theorem dX10_paint_64 : decode cX10_paint 64 = .ok (.iconst 0, 1) := by decide +kernel
theorem dX10_paint_65 : decode cX10_paint 65 = .ok (.istore 8, 2) := by decide +kernel
theorem dX10_paint_67 : decode cX10_paint 67 = .ok (.iload 8, 2) := by decide +kernel
theorem dX10_paint_69 : decode cX10_paint 69 = .ok (.bipush 8, 2) := by decide +kernel
theorem dX10_paint_71 : decode cX10_paint 71 = .ok (.if_icmp .ge 68, 3) := by decide +kernel
theorem dX10_paint_74 : decode cX10_paint 74 = .ok (.aload_n 0, 1) := by decide +kernel
theorem dX10_paint_75 : decode cX10_paint 75 = .ok (.getfield 57, 3) := by decide +kernel
theorem dX10_paint_78 : decode cX10_paint 78 = .ok (.iload 6, 2) := by decide +kernel
theorem dX10_paint_80 : decode cX10_paint 80 = .ok (.iload 8, 2) := by decide +kernel
theorem dX10_paint_82 : decode cX10_paint 82 = .ok (.iastore, 1) := by decide +kernel
theorem dX10_paint_83 : decode cX10_paint 83 = .ok (.iload 8, 2) := by decide +kernel
theorem dX10_paint_85 : decode cX10_paint 85 = .ok (.iload 7, 2) := by decide +kernel
theorem dX10_paint_87 : decode cX10_paint 87 = .ok (.if_icmp .ne 8, 3) := by decide +kernel
theorem dX10_paint_90 : decode cX10_paint 90 = .ok (.ldc 236, 2) := by decide +kernel
theorem dX10_paint_92 : decode cX10_paint 92 = .ok (.goto 7, 3) := by decide +kernel
theorem dX10_paint_95 : decode cX10_paint 95 = .ok (.aload_n 0, 1) := by decide +kernel
theorem dX10_paint_96 : decode cX10_paint 96 = .ok (.invokevirtual 225, 3) := by decide +kernel
theorem dX10_paint_99 : decode cX10_paint 99 = .ok (.istore 9, 2) := by decide +kernel
theorem dX10_paint_101 : decode cX10_paint 101 = .ok (.iload 9, 2) := by decide +kernel
theorem dX10_paint_103 : decode cX10_paint 103 = .ok (.iload_n 3, 1) := by decide +kernel
theorem dX10_paint_104 : decode cX10_paint 104 = .ok (.if_icmp .ge 14, 3) := by decide +kernel
theorem dX10_paint_107 : decode cX10_paint 107 = .ok (.bipush 8, 2) := by decide +kernel
theorem dX10_paint_109 : decode cX10_paint 109 = .ok (.iload 6, 2) := by decide +kernel
theorem dX10_paint_111 : decode cX10_paint 111 = .ok (.imul, 1) := by decide +kernel
theorem dX10_paint_112 : decode cX10_paint 112 = .ok (.iload 8, 2) := by decide +kernel
theorem dX10_paint_114 : decode cX10_paint 114 = .ok (.iadd, 1) := by decide +kernel
theorem dX10_paint_115 : decode cX10_paint 115 = .ok (.goto 4, 3) := by decide +kernel
theorem dX10_paint_118 : decode cX10_paint 118 = .ok (.iload_n 2, 1) := by decide +kernel
theorem dX10_paint_119 : decode cX10_paint 119 = .ok (.istore_n 2, 1) := by decide +kernel
theorem dX10_paint_120 : decode cX10_paint 120 = .ok (.iload 9, 2) := by decide +kernel
theorem dX10_paint_122 : decode cX10_paint 122 = .ok (.iload_n 3, 1) := by decide +kernel
theorem dX10_paint_123 : decode cX10_paint 123 = .ok (.if_icmp .ge 8, 3) := by decide +kernel
theorem dX10_paint_126 : decode cX10_paint 126 = .ok (.iload 9, 2) := by decide +kernel
theorem dX10_paint_128 : decode cX10_paint 128 = .ok (.goto 4, 3) := by decide +kernel
theorem dX10_paint_131 : decode cX10_paint 131 = .ok (.iload_n 3, 1) := by decide +kernel
theorem dX10_paint_132 : decode cX10_paint 132 = .ok (.istore_n 3, 1) := by decide +kernel
theorem dX10_paint_133 : decode cX10_paint 133 = .ok (.iinc 8 1, 3) := by decide +kernel
theorem dX10_paint_136 : decode cX10_paint 136 = .ok (.goto (-69), 3) := by decide +kernel
theorem dX10_paint_139 : decode cX10_paint 139 = .ok (.aload_n 0, 1) := by decide +kernel
theorem dX10_paint_140 : decode cX10_paint 140 = .ok (.getfield 57, 3) := by decide +kernel
theorem dX10_paint_143 : decode cX10_paint 143 = .ok (.iload 6, 2) := by decide +kernel
theorem dX10_paint_145 : decode cX10_paint 145 = .ok (.iload 7, 2) := by decide +kernel
theorem dX10_paint_147 : decode cX10_paint 147 = .ok (.iastore, 1) := by decide +kernel
theorem dX10_paint_148 : decode cX10_paint 148 = .ok (.iinc 5 1, 3) := by decide +kernel
theorem dX10_paint_151 : decode cX10_paint 151 = .ok (.goto (-114), 3) := by decide +kernel
theorem dX10_paint_154 : decode cX10_paint 154 = .ok (.iinc 4 1, 3) := by decide +kernel
theorem dX10_paint_157 : decode cX10_paint 157 = .ok (.goto (-132), 3) := by decide +kernel
theorem dX10_paint_160 : decode cX10_paint 160 = .ok (.iload_n 1, 1) := by decide +kernel
theorem dX10_paint_161 : decode cX10_paint 161 = .ok (.ifCond .ne 7, 3) := by decide +kernel
theorem dX10_paint_164 : decode cX10_paint 164 = .ok (.iload_n 2, 1) := by decide +kernel
theorem dX10_paint_165 : decode cX10_paint 165 = .ok (.goto 4, 3) := by decide +kernel
theorem dX10_paint_168 : decode cX10_paint 168 = .ok (.iload_n 3, 1) := by decide +kernel
theorem dX10_paint_169 : decode cX10_paint 169 = .ok (.ireturn, 1) := by decide +kernel
theorem dX10_light_0 : decode cX10_light 0 = .ok (.iload_n 1, 1) := by decide +kernel
theorem dX10_light_1 : decode cX10_light 1 = .ok (.iload_n 2, 1) := by decide +kernel
theorem dX10_light_2 : decode cX10_light 2 = .ok (.invokestatic 237, 3) := by decide +kernel
theorem dX10_light_5 : decode cX10_light 5 = .ok (.ifCond .eq 24, 3) := by decide +kernel
theorem dX10_light_8 : decode cX10_light 8 = .ok (.iload_n 3, 1) := by decide +kernel
theorem dX10_light_9 : decode cX10_light 9 = .ok (.invokestatic 240, 3) := by decide +kernel
theorem dX10_light_12 : decode cX10_light 12 = .ok (.ifCond .eq 17, 3) := by decide +kernel
theorem dX10_light_15 : decode cX10_light 15 = .ok (.aload_n 0, 1) := by decide +kernel
theorem dX10_light_16 : decode cX10_light 16 = .ok (.aload_n 0, 1) := by decide +kernel
theorem dX10_light_17 : decode cX10_light 17 = .ok (.getfield 23, 3) := by decide +kernel
theorem dX10_light_20 : decode cX10_light 20 = .ok (.iload_n 1, 1) := by decide +kernel
theorem dX10_light_21 : decode cX10_light 21 = .ok (.iload_n 2, 1) := by decide +kernel
theorem dX10_light_22 : decode cX10_light 22 = .ok (.iload_n 3, 1) := by decide +kernel
theorem dX10_light_23 : decode cX10_light 23 = .ok (.invokevirtual 193, 3) := by decide +kernel
theorem dX10_light_26 : decode cX10_light 26 = .ok (.goto 4, 3) := by decide +kernel
theorem dX10_light_29 : decode cX10_light 29 = .ok (.iconst (-1), 1) := by decide +kernel
theorem dX10_light_30 : decode cX10_light 30 = .ok (.ireturn, 1) := by decide +kernel
theorem dX10_lit_0 : decode cX10_lit 0 = .ok (.iload_n 1, 1) := by decide +kernel
theorem dX10_lit_1 : decode cX10_lit 1 = .ok (.invokestatic 243, 3) := by decide +kernel
theorem dX10_lit_4 : decode cX10_lit 4 = .ok (.ifCond .eq 20, 3) := by decide +kernel
theorem dX10_lit_7 : decode cX10_lit 7 = .ok (.iload_n 2, 1) := by decide +kernel
theorem dX10_lit_8 : decode cX10_lit 8 = .ok (.invokestatic 240, 3) := by decide +kernel
theorem dX10_lit_11 : decode cX10_lit 11 = .ok (.ifCond .eq 13, 3) := by decide +kernel
theorem dX10_lit_14 : decode cX10_lit 14 = .ok (.iload_n 3, 1) := by decide +kernel
theorem dX10_lit_15 : decode cX10_lit 15 = .ok (.i2l, 1) := by decide +kernel
theorem dX10_lit_16 : decode cX10_lit 16 = .ok (.lconst 0, 1) := by decide +kernel
theorem dX10_lit_17 : decode cX10_lit 17 = .ok (.lconst 1, 1) := by decide +kernel
theorem dX10_lit_18 : decode cX10_lit 18 = .ok (.invokestatic 81, 3) := by decide +kernel
theorem dX10_lit_21 : decode cX10_lit 21 = .ok (.ifCond .ne 5, 3) := by decide +kernel
theorem dX10_lit_24 : decode cX10_lit 24 = .ok (.iconst (-1), 1) := by decide +kernel
theorem dX10_lit_25 : decode cX10_lit 25 = .ok (.ireturn, 1) := by decide +kernel
theorem dX10_lit_26 : decode cX10_lit 26 = .ok (.iconst 0, 1) := by decide +kernel
theorem dX10_lit_27 : decode cX10_lit 27 = .ok (.istore 4, 2) := by decide +kernel
theorem dX10_lit_29 : decode cX10_lit 29 = .ok (.bipush (-9), 2) := by decide +kernel
theorem dX10_lit_31 : decode cX10_lit 31 = .ok (.istore 5, 2) := by decide +kernel
theorem dX10_lit_33 : decode cX10_lit 33 = .ok (.bipush 83, 2) := by decide +kernel
theorem dX10_lit_35 : decode cX10_lit 35 = .ok (.istore 6, 2) := by decide +kernel
theorem dX10_lit_37 : decode cX10_lit 37 = .ok (.iload 6, 2) := by decide +kernel
theorem dX10_lit_39 : decode cX10_lit 39 = .ok (.ifCond .lt 56, 3) := by decide +kernel
theorem dX10_lit_42 : decode cX10_lit 42 = .ok (.aload_n 0, 1) := by decide +kernel
theorem dX10_lit_43 : decode cX10_lit 43 = .ok (.iload 6, 2) := by decide +kernel
theorem dX10_lit_45 : decode cX10_lit 45 = .ok (.iload_n 2, 1) := by decide +kernel
theorem dX10_lit_46 : decode cX10_lit 46 = .ok (.invokevirtual 246, 3) := by decide +kernel
theorem dX10_lit_49 : decode cX10_lit 49 = .ok (.iload_n 1, 1) := by decide +kernel
theorem dX10_lit_50 : decode cX10_lit 50 = .ok (.if_icmp .ne 7, 3) := by decide +kernel
theorem dX10_lit_53 : decode cX10_lit 53 = .ok (.iconst 1, 1) := by decide +kernel
theorem dX10_lit_54 : decode cX10_lit 54 = .ok (.goto 4, 3) := by decide +kernel
theorem dX10_lit_57 : decode cX10_lit 57 = .ok (.iconst 0, 1) := by decide +kernel
theorem dX10_lit_58 : decode cX10_lit 58 = .ok (.istore 7, 2) := by decide +kernel
theorem dX10_lit_60 : decode cX10_lit 60 = .ok (.iload 4, 2) := by decide +kernel
theorem dX10_lit_62 : decode cX10_lit 62 = .ok (.iload 7, 2) := by decide +kernel
theorem dX10_lit_64 : decode cX10_lit 64 = .ok (.ifCond .eq 7, 3) := by decide +kernel
theorem dX10_lit_67 : decode cX10_lit 67 = .ok (.iconst 1, 1) := by decide +kernel
theorem dX10_lit_68 : decode cX10_lit 68 = .ok (.goto 4, 3) := by decide +kernel
theorem dX10_lit_71 : decode cX10_lit 71 = .ok (.iconst 0, 1) := by decide +kernel
theorem dX10_lit_72 : decode cX10_lit 72 = .ok (.iadd, 1) := by decide +kernel
theorem dX10_lit_73 : decode cX10_lit 73 = .ok (.istore 4, 2) := by decide +kernel
theorem dX10_lit_75 : decode cX10_lit 75 = .ok (.iload 7, 2) := by decide +kernel
theorem dX10_lit_77 : decode cX10_lit 77 = .ok (.ifCond .eq 8, 3) := by decide +kernel
theorem dX10_lit_80 : decode cX10_lit 80 = .ok (.iload 6, 2) := by decide +kernel
theorem dX10_lit_82 : decode cX10_lit 82 = .ok (.goto 5, 3) := by decide +kernel
theorem dX10_lit_85 : decode cX10_lit 85 = .ok (.iload 5, 2) := by decide +kernel
theorem dX10_lit_87 : decode cX10_lit 87 = .ok (.istore 5, 2) := by decide +kernel
theorem dX10_lit_89 : decode cX10_lit 89 = .ok (.iinc 6 (-1), 3) := by decide +kernel
theorem dX10_lit_92 : decode cX10_lit 92 = .ok (.goto (-55), 3) := by decide +kernel
theorem dX10_lit_95 : decode cX10_lit 95 = .ok (.iload_n 3, 1) := by decide +kernel
theorem dX10_lit_96 : decode cX10_lit 96 = .ok (.ifCond .ne 8, 3) := by decide +kernel
theorem dX10_lit_99 : decode cX10_lit 99 = .ok (.iload 4, 2) := by decide +kernel
theorem dX10_lit_101 : decode cX10_lit 101 = .ok (.goto 5, 3) := by decide +kernel
theorem dX10_lit_104 : decode cX10_lit 104 = .ok (.iload 5, 2) := by decide +kernel
theorem dX10_lit_106 : decode cX10_lit 106 = .ok (.ireturn, 1) := by decide +kernel
theorem dX10_when_0 : decode cX10_when 0 = .ok (.iload_n 1, 1) := by decide +kernel
theorem dX10_when_1 : decode cX10_when 1 = .ok (.iload_n 2, 1) := by decide +kernel
theorem dX10_when_2 : decode cX10_when 2 = .ok (.invokestatic 237, 3) := by decide +kernel
theorem dX10_when_5 : decode cX10_when 5 = .ok (.ifCond .eq 10, 3) := by decide +kernel
theorem dX10_when_8 : decode cX10_when 8 = .ok (.iload_n 3, 1) := by decide +kernel
theorem dX10_when_9 : decode cX10_when 9 = .ok (.invokestatic 243, 3) := by decide +kernel
theorem dX10_when_12 : decode cX10_when 12 = .ok (.ifCond .ne 5, 3) := by decide +kernel
theorem dX10_when_15 : decode cX10_when 15 = .ok (.iconst (-1), 1) := by decide +kernel
theorem dX10_when_16 : decode cX10_when 16 = .ok (.ireturn, 1) := by decide +kernel
theorem dX10_when_17 : decode cX10_when 17 = .ok (.iconst 0, 1) := by decide +kernel
theorem dX10_when_18 : decode cX10_when 18 = .ok (.istore 4, 2) := by decide +kernel
theorem dX10_when_20 : decode cX10_when 20 = .ok (.iload 4, 2) := by decide +kernel
theorem dX10_when_22 : decode cX10_when 22 = .ok (.bipush 8, 2) := by decide +kernel
theorem dX10_when_24 : decode cX10_when 24 = .ok (.if_icmp .ge 28, 3) := by decide +kernel
theorem dX10_when_27 : decode cX10_when 27 = .ok (.aload_n 0, 1) := by decide +kernel
theorem dX10_when_28 : decode cX10_when 28 = .ok (.aload_n 0, 1) := by decide +kernel
theorem dX10_when_29 : decode cX10_when 29 = .ok (.getfield 23, 3) := by decide +kernel
theorem dX10_when_32 : decode cX10_when 32 = .ok (.iload_n 1, 1) := by decide +kernel
theorem dX10_when_33 : decode cX10_when 33 = .ok (.iload_n 2, 1) := by decide +kernel
theorem dX10_when_34 : decode cX10_when 34 = .ok (.iload 4, 2) := by decide +kernel
theorem dX10_when_36 : decode cX10_when 36 = .ok (.invokevirtual 193, 3) := by decide +kernel
theorem dX10_when_39 : decode cX10_when 39 = .ok (.iload_n 3, 1) := by decide +kernel
theorem dX10_when_40 : decode cX10_when 40 = .ok (.if_icmp .ne 6, 3) := by decide +kernel
theorem dX10_when_43 : decode cX10_when 43 = .ok (.iload 4, 2) := by decide +kernel
theorem dX10_when_45 : decode cX10_when 45 = .ok (.ireturn, 1) := by decide +kernel
theorem dX10_when_46 : decode cX10_when 46 = .ok (.iinc 4 1, 3) := by decide +kernel
theorem dX10_when_49 : decode cX10_when 49 = .ok (.goto (-29), 3) := by decide +kernel
theorem dX10_when_52 : decode cX10_when 52 = .ok (.bipush (-9), 2) := by decide +kernel
theorem dX10_when_54 : decode cX10_when 54 = .ok (.ireturn, 1) := by decide +kernel
theorem dX10_free_0 : decode cX10_free 0 = .ok (.iload_n 1, 1) := by decide +kernel
theorem dX10_free_1 : decode cX10_free 1 = .ok (.bipush (-9), 2) := by decide +kernel
theorem dX10_free_3 : decode cX10_free 3 = .ok (.if_icmp .eq 17, 3) := by decide +kernel
theorem dX10_free_6 : decode cX10_free 6 = .ok (.aload_n 0, 1) := by decide +kernel
theorem dX10_free_7 : decode cX10_free 7 = .ok (.getfield 23, 3) := by decide +kernel
theorem dX10_free_10 : decode cX10_free 10 = .ok (.bipush 8, 2) := by decide +kernel
theorem dX10_free_12 : decode cX10_free 12 = .ok (.iaload, 1) := by decide +kernel
theorem dX10_free_13 : decode cX10_free 13 = .ok (.iload_n 1, 1) := by decide +kernel
theorem dX10_free_14 : decode cX10_free 14 = .ok (.invokestatic 172, 3) := by decide +kernel
theorem dX10_free_17 : decode cX10_free 17 = .ok (.ifCond .eq 7, 3) := by decide +kernel
theorem dX10_free_20 : decode cX10_free 20 = .ok (.iconst 0, 1) := by decide +kernel
theorem dX10_free_21 : decode cX10_free 21 = .ok (.goto 17, 3) := by decide +kernel
theorem dX10_free_24 : decode cX10_free 24 = .ok (.iconst 3, 1) := by decide +kernel
theorem dX10_free_25 : decode cX10_free 25 = .ok (.aload_n 0, 1) := by decide +kernel
theorem dX10_free_26 : decode cX10_free 26 = .ok (.aload_n 0, 1) := by decide +kernel
theorem dX10_free_27 : decode cX10_free 27 = .ok (.getfield 23, 3) := by decide +kernel
theorem dX10_free_30 : decode cX10_free 30 = .ok (.iload_n 1, 1) := by decide +kernel
theorem dX10_free_31 : decode cX10_free 31 = .ok (.invokevirtual 175, 3) := by decide +kernel
theorem dX10_free_34 : decode cX10_free 34 = .ok (.invokestatic 201, 3) := by decide +kernel
theorem dX10_free_37 : decode cX10_free 37 = .ok (.isub, 1) := by decide +kernel
theorem dX10_free_38 : decode cX10_free 38 = .ok (.ireturn, 1) := by decide +kernel
theorem dX10_letsNow_0 : decode cX10_letsNow 0 = .ok (.iload_n 1, 1) := by decide +kernel
theorem dX10_letsNow_1 : decode cX10_letsNow 1 = .ok (.bipush (-9), 2) := by decide +kernel
theorem dX10_letsNow_3 : decode cX10_letsNow 3 = .ok (.if_icmp .ne 7, 3) := by decide +kernel
theorem dX10_letsNow_6 : decode cX10_letsNow 6 = .ok (.iconst 0, 1) := by decide +kernel
theorem dX10_letsNow_7 : decode cX10_letsNow 7 = .ok (.goto 12, 3) := by decide +kernel
theorem dX10_letsNow_10 : decode cX10_letsNow 10 = .ok (.aload_n 0, 1) := by decide +kernel
theorem dX10_letsNow_11 : decode cX10_letsNow 11 = .ok (.aload_n 0, 1) := by decide +kernel
theorem dX10_letsNow_12 : decode cX10_letsNow 12 = .ok (.getfield 23, 3) := by decide +kernel
theorem dX10_letsNow_15 : decode cX10_letsNow 15 = .ok (.iload_n 1, 1) := by decide +kernel
theorem dX10_letsNow_16 : decode cX10_letsNow 16 = .ok (.invokevirtual 190, 3) := by decide +kernel
theorem dX10_letsNow_19 : decode cX10_letsNow 19 = .ok (.ireturn, 1) := by decide +kernel
theorem dX10_mix_0 : decode cX10_mix 0 = .ok (.iload_n 1, 1) := by decide +kernel
theorem dX10_mix_1 : decode cX10_mix 1 = .ok (.iload_n 2, 1) := by decide +kernel
theorem dX10_mix_2 : decode cX10_mix 2 = .ok (.invokestatic 237, 3) := by decide +kernel
theorem dX10_mix_5 : decode cX10_mix 5 = .ok (.ifCond .eq 31, 3) := by decide +kernel
theorem dX10_mix_8 : decode cX10_mix 8 = .ok (.iload_n 3, 1) := by decide +kernel
theorem dX10_mix_9 : decode cX10_mix 9 = .ok (.invokestatic 240, 3) := by decide +kernel
theorem dX10_mix_12 : decode cX10_mix 12 = .ok (.ifCond .eq 24, 3) := by decide +kernel
theorem dX10_mix_15 : decode cX10_mix 15 = .ok (.iload 4, 2) := by decide +kernel
theorem dX10_mix_17 : decode cX10_mix 17 = .ok (.invokestatic 243, 3) := by decide +kernel
theorem dX10_mix_20 : decode cX10_mix 20 = .ok (.ifCond .eq 16, 3) := by decide +kernel
theorem dX10_mix_23 : decode cX10_mix 23 = .ok (.iload 5, 2) := by decide +kernel
theorem dX10_mix_25 : decode cX10_mix 25 = .ok (.i2l, 1) := by decide +kernel
theorem dX10_mix_26 : decode cX10_mix 26 = .ok (.lconst 0, 1) := by decide +kernel
theorem dX10_mix_27 : decode cX10_mix 27 = .ok (.ldc2_w 250, 3) := by decide +kernel
theorem dX10_mix_30 : decode cX10_mix 30 = .ok (.invokestatic 81, 3) := by decide +kernel
theorem dX10_mix_33 : decode cX10_mix 33 = .ok (.ifCond .ne 5, 3) := by decide +kernel
theorem dX10_mix_36 : decode cX10_mix 36 = .ok (.iconst (-1), 1) := by decide +kernel
theorem dX10_mix_37 : decode cX10_mix 37 = .ok (.ireturn, 1) := by decide +kernel
theorem dX10_mix_38 : decode cX10_mix 38 = .ok (.aload_n 0, 1) := by decide +kernel
theorem dX10_mix_39 : decode cX10_mix 39 = .ok (.aload_n 0, 1) := by decide +kernel
theorem dX10_mix_40 : decode cX10_mix 40 = .ok (.getfield 23, 3) := by decide +kernel
theorem dX10_mix_43 : decode cX10_mix 43 = .ok (.iload_n 1, 1) := by decide +kernel
theorem dX10_mix_44 : decode cX10_mix 44 = .ok (.iload_n 2, 1) := by decide +kernel
theorem dX10_mix_45 : decode cX10_mix 45 = .ok (.iload_n 3, 1) := by decide +kernel
theorem dX10_mix_46 : decode cX10_mix 46 = .ok (.iconst 0, 1) := by decide +kernel
theorem dX10_mix_47 : decode cX10_mix 47 = .ok (.invokevirtual 186, 3) := by decide +kernel
theorem dX10_mix_50 : decode cX10_mix 50 = .ok (.istore 6, 2) := by decide +kernel
theorem dX10_mix_52 : decode cX10_mix 52 = .ok (.aload_n 0, 1) := by decide +kernel
theorem dX10_mix_53 : decode cX10_mix 53 = .ok (.aload_n 0, 1) := by decide +kernel
theorem dX10_mix_54 : decode cX10_mix 54 = .ok (.getfield 23, 3) := by decide +kernel
theorem dX10_mix_57 : decode cX10_mix 57 = .ok (.iload_n 1, 1) := by decide +kernel
theorem dX10_mix_58 : decode cX10_mix 58 = .ok (.iload_n 2, 1) := by decide +kernel
theorem dX10_mix_59 : decode cX10_mix 59 = .ok (.iload_n 3, 1) := by decide +kernel
theorem dX10_mix_60 : decode cX10_mix 60 = .ok (.iconst 1, 1) := by decide +kernel
theorem dX10_mix_61 : decode cX10_mix 61 = .ok (.invokevirtual 186, 3) := by decide +kernel
theorem dX10_mix_64 : decode cX10_mix 64 = .ok (.istore 7, 2) := by decide +kernel
theorem dX10_mix_66 : decode cX10_mix 66 = .ok (.aload_n 0, 1) := by decide +kernel
theorem dX10_mix_67 : decode cX10_mix 67 = .ok (.aload_n 0, 1) := by decide +kernel
theorem dX10_mix_68 : decode cX10_mix 68 = .ok (.getfield 23, 3) := by decide +kernel
theorem dX10_mix_71 : decode cX10_mix 71 = .ok (.bipush (-9), 2) := by decide +kernel
theorem dX10_mix_73 : decode cX10_mix 73 = .ok (.invokevirtual 175, 3) := by decide +kernel
theorem dX10_mix_76 : decode cX10_mix 76 = .ok (.istore 8, 2) := by decide +kernel
theorem dX10_mix_78 : decode cX10_mix 78 = .ok (.ldc 236, 2) := by decide +kernel
theorem dX10_mix_80 : decode cX10_mix 80 = .ok (.istore 9, 2) := by decide +kernel
theorem dX10_mix_82 : decode cX10_mix 82 = .ok (.iconst 0, 1) := by decide +kernel
theorem dX10_mix_83 : decode cX10_mix 83 = .ok (.istore 10, 2) := by decide +kernel
theorem dX10_mix_85 : decode cX10_mix 85 = .ok (.iconst 0, 1) := by decide +kernel
theorem dX10_mix_86 : decode cX10_mix 86 = .ok (.istore 11, 2) := by decide +kernel
theorem dX10_mix_88 : decode cX10_mix 88 = .ok (.iconst 0, 1) := by decide +kernel
theorem dX10_mix_89 : decode cX10_mix 89 = .ok (.istore 12, 2) := by decide +kernel
theorem dX10_mix_91 : decode cX10_mix 91 = .ok (.iload 12, 2) := by decide +kernel
theorem dX10_mix_93 : decode cX10_mix 93 = .ok (.iconst 1, 1) := by decide +kernel
theorem dX10_mix_94 : decode cX10_mix 94 = .ok (.aload_n 0, 1) := by decide +kernel
theorem dX10_mix_95 : decode cX10_mix 95 = .ok (.getfield 159, 3) := by decide +kernel
theorem dX10_mix_98 : decode cX10_mix 98 = .ok (.ishl, 1) := by decide +kernel
theorem dX10_mix_99 : decode cX10_mix 99 = .ok (.if_icmp .ge 164, 3) := by decide +kernel
theorem dX10_mix_102 : decode cX10_mix 102 = .ok (.iload 12, 2) := by decide +kernel
theorem dX10_mix_104 : decode cX10_mix 104 = .ok (.iload 8, 2) := by decide +kernel
theorem dX10_mix_106 : decode cX10_mix 106 = .ok (.iconst (-1), 1) := by decide +kernel
theorem dX10_mix_107 : decode cX10_mix 107 = .ok (.ixor, 1) := by decide +kernel
theorem dX10_mix_108 : decode cX10_mix 108 = .ok (.iand, 1) := by decide +kernel
theorem dX10_mix_109 : decode cX10_mix 109 = .ok (.ifCond .ne 148, 3) := by decide +kernel
theorem dX10_mix_112 : decode cX10_mix 112 = .ok (.iload 12, 2) := by decide +kernel
theorem dX10_mix_114 : decode cX10_mix 114 = .ok (.invokestatic 201, 3) := by decide +kernel
theorem dX10_mix_117 : decode cX10_mix 117 = .ok (.aload_n 0, 1) := by decide +kernel
theorem dX10_mix_118 : decode cX10_mix 118 = .ok (.iload 6, 2) := by decide +kernel
theorem dX10_mix_120 : decode cX10_mix 120 = .ok (.invokevirtual 252, 3) := by decide +kernel
theorem dX10_mix_123 : decode cX10_mix 123 = .ok (.if_icmp .le 6, 3) := by decide +kernel
theorem dX10_mix_126 : decode cX10_mix 126 = .ok (.goto 131, 3) := by decide +kernel
theorem dX10_mix_129 : decode cX10_mix 129 = .ok (.iconst 0, 1) := by decide +kernel
theorem dX10_mix_130 : decode cX10_mix 130 = .ok (.istore 13, 2) := by decide +kernel
theorem dX10_mix_132 : decode cX10_mix 132 = .ok (.iload 13, 2) := by decide +kernel
theorem dX10_mix_134 : decode cX10_mix 134 = .ok (.iconst 1, 1) := by decide +kernel
theorem dX10_mix_135 : decode cX10_mix 135 = .ok (.aload_n 0, 1) := by decide +kernel
theorem dX10_mix_136 : decode cX10_mix 136 = .ok (.getfield 159, 3) := by decide +kernel
theorem dX10_mix_139 : decode cX10_mix 139 = .ok (.ishl, 1) := by decide +kernel
theorem dX10_mix_140 : decode cX10_mix 140 = .ok (.if_icmp .ge 117, 3) := by decide +kernel
theorem dX10_mix_143 : decode cX10_mix 143 = .ok (.iload 13, 2) := by decide +kernel
theorem dX10_mix_145 : decode cX10_mix 145 = .ok (.iload 12, 2) := by decide +kernel
theorem dX10_mix_147 : decode cX10_mix 147 = .ok (.iload 8, 2) := by decide +kernel
theorem dX10_mix_149 : decode cX10_mix 149 = .ok (.iconst (-1), 1) := by decide +kernel
theorem dX10_mix_150 : decode cX10_mix 150 = .ok (.ixor, 1) := by decide +kernel
theorem dX10_mix_151 : decode cX10_mix 151 = .ok (.ior, 1) := by decide +kernel
theorem dX10_mix_152 : decode cX10_mix 152 = .ok (.iand, 1) := by decide +kernel
theorem dX10_mix_153 : decode cX10_mix 153 = .ok (.ifCond .ne 37, 3) := by decide +kernel
theorem dX10_mix_156 : decode cX10_mix 156 = .ok (.iload 13, 2) := by decide +kernel
theorem dX10_mix_158 : decode cX10_mix 158 = .ok (.invokestatic 201, 3) := by decide +kernel
theorem dX10_mix_161 : decode cX10_mix 161 = .ok (.aload_n 0, 1) := by decide +kernel
theorem dX10_mix_162 : decode cX10_mix 162 = .ok (.iload 7, 2) := by decide +kernel
theorem dX10_mix_164 : decode cX10_mix 164 = .ok (.invokevirtual 252, 3) := by decide +kernel
theorem dX10_mix_167 : decode cX10_mix 167 = .ok (.if_icmp .gt 23, 3) := by decide +kernel
theorem dX10_mix_170 : decode cX10_mix 170 = .ok (.iload 12, 2) := by decide +kernel
theorem dX10_mix_172 : decode cX10_mix 172 = .ok (.invokestatic 201, 3) := by decide +kernel
theorem dX10_mix_175 : decode cX10_mix 175 = .ok (.iload 13, 2) := by decide +kernel
theorem dX10_mix_177 : decode cX10_mix 177 = .ok (.invokestatic 201, 3) := by decide +kernel
theorem dX10_mix_180 : decode cX10_mix 180 = .ok (.iadd, 1) := by decide +kernel
theorem dX10_mix_181 : decode cX10_mix 181 = .ok (.iload 9, 2) := by decide +kernel
theorem dX10_mix_183 : decode cX10_mix 183 = .ok (.if_icmp .ge 7, 3) := by decide +kernel
theorem dX10_mix_186 : decode cX10_mix 186 = .ok (.iconst 1, 1) := by decide +kernel
theorem dX10_mix_187 : decode cX10_mix 187 = .ok (.goto 4, 3) := by decide +kernel
theorem dX10_mix_190 : decode cX10_mix 190 = .ok (.iconst 0, 1) := by decide +kernel
theorem dX10_mix_191 : decode cX10_mix 191 = .ok (.istore 14, 2) := by decide +kernel
theorem dX10_mix_193 : decode cX10_mix 193 = .ok (.iload 14, 2) := by decide +kernel
theorem dX10_mix_195 : decode cX10_mix 195 = .ok (.ifCond .eq 56, 3) := by decide +kernel
theorem dX10_mix_198 : decode cX10_mix 198 = .ok (.aload_n 0, 1) := by decide +kernel
theorem dX10_mix_199 : decode cX10_mix 199 = .ok (.iload 6, 2) := by decide +kernel
theorem dX10_mix_201 : decode cX10_mix 201 = .ok (.invokevirtual 255, 3) := by decide +kernel
theorem dX10_mix_204 : decode cX10_mix 204 = .ok (.aload_n 0, 1) := by decide +kernel
theorem dX10_mix_205 : decode cX10_mix 205 = .ok (.iload 12, 2) := by decide +kernel
theorem dX10_mix_207 : decode cX10_mix 207 = .ok (.invokevirtual 179, 3) := by decide +kernel
theorem dX10_mix_210 : decode cX10_mix 210 = .ok (.iand, 1) := by decide +kernel
theorem dX10_mix_211 : decode cX10_mix 211 = .ok (.aload_n 0, 1) := by decide +kernel
theorem dX10_mix_212 : decode cX10_mix 212 = .ok (.iload 7, 2) := by decide +kernel
theorem dX10_mix_214 : decode cX10_mix 214 = .ok (.invokevirtual 255, 3) := by decide +kernel
theorem dX10_mix_217 : decode cX10_mix 217 = .ok (.aload_n 0, 1) := by decide +kernel
theorem dX10_mix_218 : decode cX10_mix 218 = .ok (.iload 13, 2) := by decide +kernel
theorem dX10_mix_220 : decode cX10_mix 220 = .ok (.invokevirtual 179, 3) := by decide +kernel
theorem dX10_mix_223 : decode cX10_mix 223 = .ok (.iand, 1) := by decide +kernel
theorem dX10_mix_224 : decode cX10_mix 224 = .ok (.ior, 1) := by decide +kernel
theorem dX10_mix_225 : decode cX10_mix 225 = .ok (.iload 4, 2) := by decide +kernel
theorem dX10_mix_227 : decode cX10_mix 227 = .ok (.if_icmp .ne 24, 3) := by decide +kernel
theorem dX10_mix_230 : decode cX10_mix 230 = .ok (.iload 12, 2) := by decide +kernel
theorem dX10_mix_232 : decode cX10_mix 232 = .ok (.invokestatic 201, 3) := by decide +kernel
theorem dX10_mix_235 : decode cX10_mix 235 = .ok (.iload 13, 2) := by decide +kernel
theorem dX10_mix_237 : decode cX10_mix 237 = .ok (.invokestatic 201, 3) := by decide +kernel
theorem dX10_mix_240 : decode cX10_mix 240 = .ok (.iadd, 1) := by decide +kernel
theorem dX10_mix_241 : decode cX10_mix 241 = .ok (.istore 9, 2) := by decide +kernel
theorem dX10_mix_243 : decode cX10_mix 243 = .ok (.iload 12, 2) := by decide +kernel
theorem dX10_mix_245 : decode cX10_mix 245 = .ok (.istore 10, 2) := by decide +kernel
theorem dX10_mix_247 : decode cX10_mix 247 = .ok (.iload 13, 2) := by decide +kernel
theorem dX10_mix_249 : decode cX10_mix 249 = .ok (.istore 11, 2) := by decide +kernel
theorem dX10_mix_251 : decode cX10_mix 251 = .ok (.iinc 13 1, 3) := by decide +kernel
theorem dX10_mix_254 : decode cX10_mix 254 = .ok (.goto (-122), 3) := by decide +kernel
theorem dX10_mix_257 : decode cX10_mix 257 = .ok (.iinc 12 1, 3) := by decide +kernel
theorem dX10_mix_260 : decode cX10_mix 260 = .ok (.goto (-169), 3) := by decide +kernel
theorem dX10_mix_263 : decode cX10_mix 263 = .ok (.iload 9, 2) := by decide +kernel
theorem dX10_mix_265 : decode cX10_mix 265 = .ok (.ldc 236, 2) := by decide +kernel
theorem dX10_mix_267 : decode cX10_mix 267 = .ok (.if_icmp .ne 8, 3) := by decide +kernel
theorem dX10_mix_270 : decode cX10_mix 270 = .ok (.bipush (-9), 2) := by decide +kernel
theorem dX10_mix_272 : decode cX10_mix 272 = .ok (.goto 26, 3) := by decide +kernel
theorem dX10_mix_275 : decode cX10_mix 275 = .ok (.iload 5, 2) := by decide +kernel
theorem dX10_mix_277 : decode cX10_mix 277 = .ok (.ifCond .ne 8, 3) := by decide +kernel
theorem dX10_mix_280 : decode cX10_mix 280 = .ok (.iload 9, 2) := by decide +kernel
theorem dX10_mix_282 : decode cX10_mix 282 = .ok (.goto 16, 3) := by decide +kernel
theorem dX10_mix_285 : decode cX10_mix 285 = .ok (.iload 5, 2) := by decide +kernel
theorem dX10_mix_287 : decode cX10_mix 287 = .ok (.iconst 1, 1) := by decide +kernel
theorem dX10_mix_288 : decode cX10_mix 288 = .ok (.if_icmp .ne 8, 3) := by decide +kernel
theorem dX10_mix_291 : decode cX10_mix 291 = .ok (.iload 10, 2) := by decide +kernel
theorem dX10_mix_293 : decode cX10_mix 293 = .ok (.goto 5, 3) := by decide +kernel
theorem dX10_mix_296 : decode cX10_mix 296 = .ok (.iload 11, 2) := by decide +kernel
theorem dX10_mix_298 : decode cX10_mix 298 = .ok (.ireturn, 1) := by decide +kernel
theorem dX10_layHours_0 : decode cX10_layHours 0 = .ok (.iconst 0, 1) := by decide +kernel
theorem dX10_layHours_1 : decode cX10_layHours 1 = .ok (.istore_n 2, 1) := by decide +kernel
theorem dX10_layHours_2 : decode cX10_layHours 2 = .ok (.iload_n 2, 1) := by decide +kernel
theorem dX10_layHours_3 : decode cX10_layHours 3 = .ok (.bipush 84, 2) := by decide +kernel
theorem dX10_layHours_5 : decode cX10_layHours 5 = .ok (.if_icmp .ge 22, 3) := by decide +kernel
theorem dX10_layHours_8 : decode cX10_layHours 8 = .ok (.aload_n 0, 1) := by decide +kernel
theorem dX10_layHours_9 : decode cX10_layHours 9 = .ok (.getfield 63, 3) := by decide +kernel
theorem dX10_layHours_12 : decode cX10_layHours 12 = .ok (.bipush 9, 2) := by decide +kernel
theorem dX10_layHours_14 : decode cX10_layHours 14 = .ok (.iload_n 2, 1) := by decide +kernel
theorem dX10_layHours_15 : decode cX10_layHours 15 = .ok (.imul, 1) := by decide +kernel
theorem dX10_layHours_16 : decode cX10_layHours 16 = .ok (.bipush 8, 2) := by decide +kernel
theorem dX10_layHours_18 : decode cX10_layHours 18 = .ok (.iadd, 1) := by decide +kernel
theorem dX10_layHours_19 : decode cX10_layHours 19 = .ok (.iconst 0, 1) := by decide +kernel
theorem dX10_layHours_20 : decode cX10_layHours 20 = .ok (.iastore, 1) := by decide +kernel
theorem dX10_layHours_21 : decode cX10_layHours 21 = .ok (.iinc 2 1, 3) := by decide +kernel
theorem dX10_layHours_24 : decode cX10_layHours 24 = .ok (.goto (-22), 3) := by decide +kernel
theorem dX10_layHours_27 : decode cX10_layHours 27 = .ok (.bipush 7, 2) := by decide +kernel
theorem dX10_layHours_29 : decode cX10_layHours 29 = .ok (.istore_n 2, 1) := by decide +kernel
theorem dX10_layHours_30 : decode cX10_layHours 30 = .ok (.iload_n 2, 1) := by decide +kernel
theorem dX10_layHours_31 : decode cX10_layHours 31 = .ok (.ifCond .lt 82, 3) := by decide +kernel
theorem dX10_layHours_34 : decode cX10_layHours 34 = .ok (.iconst 0, 1) := by decide +kernel
theorem dX10_layHours_35 : decode cX10_layHours 35 = .ok (.istore_n 3, 1) := by decide +kernel
theorem dX10_layHours_36 : decode cX10_layHours 36 = .ok (.iload_n 3, 1) := by decide +kernel
theorem dX10_layHours_37 : decode cX10_layHours 37 = .ok (.bipush 84, 2) := by decide +kernel
theorem dX10_layHours_39 : decode cX10_layHours 39 = .ok (.if_icmp .ge 68, 3) := by decide +kernel
theorem dX10_layHours_42 : decode cX10_layHours 42 = .ok (.aload_n 0, 1) := by decide +kernel
theorem dX10_layHours_43 : decode cX10_layHours 43 = .ok (.iload_n 3, 1) := by decide +kernel
theorem dX10_layHours_44 : decode cX10_layHours 44 = .ok (.iload_n 2, 1) := by decide +kernel
theorem dX10_layHours_45 : decode cX10_layHours 45 = .ok (.invokevirtual 246, 3) := by decide +kernel
theorem dX10_layHours_48 : decode cX10_layHours 48 = .ok (.iload_n 1, 1) := by decide +kernel
theorem dX10_layHours_49 : decode cX10_layHours 49 = .ok (.iand, 1) := by decide +kernel
theorem dX10_layHours_50 : decode cX10_layHours 50 = .ok (.iload_n 1, 1) := by decide +kernel
theorem dX10_layHours_51 : decode cX10_layHours 51 = .ok (.if_icmp .ne 7, 3) := by decide +kernel
theorem dX10_layHours_54 : decode cX10_layHours 54 = .ok (.iconst 1, 1) := by decide +kernel
theorem dX10_layHours_55 : decode cX10_layHours 55 = .ok (.goto 4, 3) := by decide +kernel
theorem dX10_layHours_58 : decode cX10_layHours 58 = .ok (.iconst 0, 1) := by decide +kernel
theorem dX10_layHours_59 : decode cX10_layHours 59 = .ok (.istore 4, 2) := by decide +kernel
theorem dX10_layHours_61 : decode cX10_layHours 61 = .ok (.aload_n 0, 1) := by decide +kernel
theorem dX10_layHours_62 : decode cX10_layHours 62 = .ok (.getfield 63, 3) := by decide +kernel
theorem dX10_layHours_65 : decode cX10_layHours 65 = .ok (.bipush 9, 2) := by decide +kernel
theorem dX10_layHours_67 : decode cX10_layHours 67 = .ok (.iload_n 3, 1) := by decide +kernel
theorem dX10_layHours_68 : decode cX10_layHours 68 = .ok (.imul, 1) := by decide +kernel
theorem dX10_layHours_69 : decode cX10_layHours 69 = .ok (.iload_n 2, 1) := by decide +kernel
theorem dX10_layHours_70 : decode cX10_layHours 70 = .ok (.iadd, 1) := by decide +kernel
theorem dX10_layHours_71 : decode cX10_layHours 71 = .ok (.iload 4, 2) := by decide +kernel
theorem dX10_layHours_73 : decode cX10_layHours 73 = .ok (.ifCond .eq 26, 3) := by decide +kernel
theorem dX10_layHours_76 : decode cX10_layHours 76 = .ok (.iconst 1, 1) := by decide +kernel
theorem dX10_layHours_77 : decode cX10_layHours 77 = .ok (.aload_n 0, 1) := by decide +kernel
theorem dX10_layHours_78 : decode cX10_layHours 78 = .ok (.getfield 63, 3) := by decide +kernel
theorem dX10_layHours_81 : decode cX10_layHours 81 = .ok (.bipush 9, 2) := by decide +kernel
theorem dX10_layHours_83 : decode cX10_layHours 83 = .ok (.aload_n 0, 1) := by decide +kernel
theorem dX10_layHours_84 : decode cX10_layHours 84 = .ok (.iload_n 3, 1) := by decide +kernel
theorem dX10_layHours_85 : decode cX10_layHours 85 = .ok (.iload_n 2, 1) := by decide +kernel
theorem dX10_layHours_86 : decode cX10_layHours 86 = .ok (.invokevirtual 258, 3) := by decide +kernel
theorem dX10_layHours_89 : decode cX10_layHours 89 = .ok (.imul, 1) := by decide +kernel
theorem dX10_layHours_90 : decode cX10_layHours 90 = .ok (.iload_n 2, 1) := by decide +kernel
theorem dX10_layHours_91 : decode cX10_layHours 91 = .ok (.iadd, 1) := by decide +kernel
theorem dX10_layHours_92 : decode cX10_layHours 92 = .ok (.iconst 1, 1) := by decide +kernel
theorem dX10_layHours_93 : decode cX10_layHours 93 = .ok (.iadd, 1) := by decide +kernel
theorem dX10_layHours_94 : decode cX10_layHours 94 = .ok (.iaload, 1) := by decide +kernel
theorem dX10_layHours_95 : decode cX10_layHours 95 = .ok (.iadd, 1) := by decide +kernel
theorem dX10_layHours_96 : decode cX10_layHours 96 = .ok (.goto 4, 3) := by decide +kernel
theorem dX10_layHours_99 : decode cX10_layHours 99 = .ok (.iconst 0, 1) := by decide +kernel
theorem dX10_layHours_100 : decode cX10_layHours 100 = .ok (.iastore, 1) := by decide +kernel
theorem dX10_layHours_101 : decode cX10_layHours 101 = .ok (.iinc 3 1, 3) := by decide +kernel
theorem dX10_layHours_104 : decode cX10_layHours 104 = .ok (.goto (-68), 3) := by decide +kernel
theorem dX10_layHours_107 : decode cX10_layHours 107 = .ok (.iinc 2 (-1), 3) := by decide +kernel
theorem dX10_layHours_110 : decode cX10_layHours 110 = .ok (.goto (-80), 3) := by decide +kernel
theorem dX10_layHours_113 : decode cX10_layHours 113 = .ok (.return_, 1) := by decide +kernel
theorem dX10_nextTile_0 : decode cX10_nextTile 0 = .ok (.bipush (-9), 2) := by decide +kernel
theorem dX10_nextTile_2 : decode cX10_nextTile 2 = .ok (.istore_n 3, 1) := by decide +kernel
theorem dX10_nextTile_3 : decode cX10_nextTile 3 = .ok (.iconst 0, 1) := by decide +kernel
theorem dX10_nextTile_4 : decode cX10_nextTile 4 = .ok (.istore 4, 2) := by decide +kernel
theorem dX10_nextTile_6 : decode cX10_nextTile 6 = .ok (.iload 4, 2) := by decide +kernel
theorem dX10_nextTile_8 : decode cX10_nextTile 8 = .ok (.iconst 5, 1) := by decide +kernel
theorem dX10_nextTile_9 : decode cX10_nextTile 9 = .ok (.if_icmp .ge 125, 3) := by decide +kernel
theorem dX10_nextTile_12 : decode cX10_nextTile 12 = .ok (.iload_n 1, 1) := by decide +kernel
theorem dX10_nextTile_13 : decode cX10_nextTile 13 = .ok (.bipush 7, 2) := by decide +kernel
theorem dX10_nextTile_15 : decode cX10_nextTile 15 = .ok (.idiv, 1) := by decide +kernel
theorem dX10_nextTile_16 : decode cX10_nextTile 16 = .ok (.iload 4, 2) := by decide +kernel
theorem dX10_nextTile_18 : decode cX10_nextTile 18 = .ok (.ifCond .ne 7, 3) := by decide +kernel
theorem dX10_nextTile_21 : decode cX10_nextTile 21 = .ok (.iconst (-1), 1) := by decide +kernel
theorem dX10_nextTile_22 : decode cX10_nextTile 22 = .ok (.goto 14, 3) := by decide +kernel
theorem dX10_nextTile_25 : decode cX10_nextTile 25 = .ok (.iload 4, 2) := by decide +kernel
theorem dX10_nextTile_27 : decode cX10_nextTile 27 = .ok (.iconst 4, 1) := by decide +kernel
theorem dX10_nextTile_28 : decode cX10_nextTile 28 = .ok (.if_icmp .ne 7, 3) := by decide +kernel
theorem dX10_nextTile_31 : decode cX10_nextTile 31 = .ok (.iconst 1, 1) := by decide +kernel
theorem dX10_nextTile_32 : decode cX10_nextTile 32 = .ok (.goto 4, 3) := by decide +kernel
theorem dX10_nextTile_35 : decode cX10_nextTile 35 = .ok (.iconst 0, 1) := by decide +kernel
theorem dX10_nextTile_36 : decode cX10_nextTile 36 = .ok (.iadd, 1) := by decide +kernel
theorem dX10_nextTile_37 : decode cX10_nextTile 37 = .ok (.istore 5, 2) := by decide +kernel
theorem dX10_nextTile_39 : decode cX10_nextTile 39 = .ok (.iload_n 1, 1) := by decide +kernel
theorem dX10_nextTile_40 : decode cX10_nextTile 40 = .ok (.bipush 7, 2) := by decide +kernel
theorem dX10_nextTile_42 : decode cX10_nextTile 42 = .ok (.irem, 1) := by decide +kernel
theorem dX10_nextTile_43 : decode cX10_nextTile 43 = .ok (.iload 4, 2) := by decide +kernel
theorem dX10_nextTile_45 : decode cX10_nextTile 45 = .ok (.iconst 1, 1) := by decide +kernel
theorem dX10_nextTile_46 : decode cX10_nextTile 46 = .ok (.if_icmp .ne 7, 3) := by decide +kernel
theorem dX10_nextTile_49 : decode cX10_nextTile 49 = .ok (.iconst (-1), 1) := by decide +kernel
theorem dX10_nextTile_50 : decode cX10_nextTile 50 = .ok (.goto 14, 3) := by decide +kernel
theorem dX10_nextTile_53 : decode cX10_nextTile 53 = .ok (.iload 4, 2) := by decide +kernel
theorem dX10_nextTile_55 : decode cX10_nextTile 55 = .ok (.iconst 3, 1) := by decide +kernel
theorem dX10_nextTile_56 : decode cX10_nextTile 56 = .ok (.if_icmp .ne 7, 3) := by decide +kernel
theorem dX10_nextTile_59 : decode cX10_nextTile 59 = .ok (.iconst 1, 1) := by decide +kernel
theorem dX10_nextTile_60 : decode cX10_nextTile 60 = .ok (.goto 4, 3) := by decide +kernel
theorem dX10_nextTile_63 : decode cX10_nextTile 63 = .ok (.iconst 0, 1) := by decide +kernel
theorem dX10_nextTile_64 : decode cX10_nextTile 64 = .ok (.iadd, 1) := by decide +kernel
theorem dX10_nextTile_65 : decode cX10_nextTile 65 = .ok (.istore 6, 2) := by decide +kernel
theorem dX10_nextTile_67 : decode cX10_nextTile 67 = .ok (.iload 5, 2) := by decide +kernel
theorem dX10_nextTile_69 : decode cX10_nextTile 69 = .ok (.iload 6, 2) := by decide +kernel
theorem dX10_nextTile_71 : decode cX10_nextTile 71 = .ok (.invokestatic 237, 3) := by decide +kernel
theorem dX10_nextTile_74 : decode cX10_nextTile 74 = .ok (.ifCond .eq 54, 3) := by decide +kernel
theorem dX10_nextTile_77 : decode cX10_nextTile 77 = .ok (.iload_n 3, 1) := by decide +kernel
theorem dX10_nextTile_78 : decode cX10_nextTile 78 = .ok (.bipush (-9), 2) := by decide +kernel
theorem dX10_nextTile_80 : decode cX10_nextTile 80 = .ok (.if_icmp .eq 39, 3) := by decide +kernel
theorem dX10_nextTile_83 : decode cX10_nextTile 83 = .ok (.aload_n 0, 1) := by decide +kernel
theorem dX10_nextTile_84 : decode cX10_nextTile 84 = .ok (.getfield 63, 3) := by decide +kernel
theorem dX10_nextTile_87 : decode cX10_nextTile 87 = .ok (.bipush 9, 2) := by decide +kernel
theorem dX10_nextTile_89 : decode cX10_nextTile 89 = .ok (.bipush 7, 2) := by decide +kernel
theorem dX10_nextTile_91 : decode cX10_nextTile 91 = .ok (.iload 5, 2) := by decide +kernel
theorem dX10_nextTile_93 : decode cX10_nextTile 93 = .ok (.imul, 1) := by decide +kernel
theorem dX10_nextTile_94 : decode cX10_nextTile 94 = .ok (.iload 6, 2) := by decide +kernel
theorem dX10_nextTile_96 : decode cX10_nextTile 96 = .ok (.iadd, 1) := by decide +kernel
theorem dX10_nextTile_97 : decode cX10_nextTile 97 = .ok (.imul, 1) := by decide +kernel
theorem dX10_nextTile_98 : decode cX10_nextTile 98 = .ok (.iload_n 2, 1) := by decide +kernel
theorem dX10_nextTile_99 : decode cX10_nextTile 99 = .ok (.iadd, 1) := by decide +kernel
theorem dX10_nextTile_100 : decode cX10_nextTile 100 = .ok (.iconst 1, 1) := by decide +kernel
theorem dX10_nextTile_101 : decode cX10_nextTile 101 = .ok (.iadd, 1) := by decide +kernel
theorem dX10_nextTile_102 : decode cX10_nextTile 102 = .ok (.iaload, 1) := by decide +kernel
theorem dX10_nextTile_103 : decode cX10_nextTile 103 = .ok (.aload_n 0, 1) := by decide +kernel
theorem dX10_nextTile_104 : decode cX10_nextTile 104 = .ok (.getfield 63, 3) := by decide +kernel
theorem dX10_nextTile_107 : decode cX10_nextTile 107 = .ok (.bipush 9, 2) := by decide +kernel
theorem dX10_nextTile_109 : decode cX10_nextTile 109 = .ok (.iload_n 3, 1) := by decide +kernel
theorem dX10_nextTile_110 : decode cX10_nextTile 110 = .ok (.imul, 1) := by decide +kernel
theorem dX10_nextTile_111 : decode cX10_nextTile 111 = .ok (.iload_n 2, 1) := by decide +kernel
theorem dX10_nextTile_112 : decode cX10_nextTile 112 = .ok (.iadd, 1) := by decide +kernel
theorem dX10_nextTile_113 : decode cX10_nextTile 113 = .ok (.iconst 1, 1) := by decide +kernel
theorem dX10_nextTile_114 : decode cX10_nextTile 114 = .ok (.iadd, 1) := by decide +kernel
theorem dX10_nextTile_115 : decode cX10_nextTile 115 = .ok (.iaload, 1) := by decide +kernel
theorem dX10_nextTile_116 : decode cX10_nextTile 116 = .ok (.if_icmp .le 12, 3) := by decide +kernel
theorem dX10_nextTile_119 : decode cX10_nextTile 119 = .ok (.bipush 7, 2) := by decide +kernel
theorem dX10_nextTile_121 : decode cX10_nextTile 121 = .ok (.iload 5, 2) := by decide +kernel
theorem dX10_nextTile_123 : decode cX10_nextTile 123 = .ok (.imul, 1) := by decide +kernel
theorem dX10_nextTile_124 : decode cX10_nextTile 124 = .ok (.iload 6, 2) := by decide +kernel
theorem dX10_nextTile_126 : decode cX10_nextTile 126 = .ok (.iadd, 1) := by decide +kernel
theorem dX10_nextTile_127 : decode cX10_nextTile 127 = .ok (.istore_n 3, 1) := by decide +kernel
theorem dX10_nextTile_128 : decode cX10_nextTile 128 = .ok (.iinc 4 1, 3) := by decide +kernel
theorem dX10_nextTile_131 : decode cX10_nextTile 131 = .ok (.goto (-125), 3) := by decide +kernel
theorem dX10_nextTile_134 : decode cX10_nextTile 134 = .ok (.iload_n 3, 1) := by decide +kernel
theorem dX10_nextTile_135 : decode cX10_nextTile 135 = .ok (.ireturn, 1) := by decide +kernel
theorem dX10_child_0 : decode cX10_child 0 = .ok (.iload_n 1, 1) := by decide +kernel
theorem dX10_child_1 : decode cX10_child 1 = .ok (.iload_n 2, 1) := by decide +kernel
theorem dX10_child_2 : decode cX10_child 2 = .ok (.invokestatic 237, 3) := by decide +kernel
theorem dX10_child_5 : decode cX10_child 5 = .ok (.ifCond .eq 38, 3) := by decide +kernel
theorem dX10_child_8 : decode cX10_child 8 = .ok (.iload_n 3, 1) := by decide +kernel
theorem dX10_child_9 : decode cX10_child 9 = .ok (.invokestatic 240, 3) := by decide +kernel
theorem dX10_child_12 : decode cX10_child 12 = .ok (.ifCond .eq 31, 3) := by decide +kernel
theorem dX10_child_15 : decode cX10_child 15 = .ok (.iload 4, 2) := by decide +kernel
theorem dX10_child_17 : decode cX10_child 17 = .ok (.i2l, 1) := by decide +kernel
theorem dX10_child_18 : decode cX10_child 18 = .ok (.lconst 1, 1) := by decide +kernel
theorem dX10_child_19 : decode cX10_child 19 = .ok (.ldc2_w 170, 3) := by decide +kernel
theorem dX10_child_22 : decode cX10_child 22 = .ok (.invokestatic 81, 3) := by decide +kernel
theorem dX10_child_25 : decode cX10_child 25 = .ok (.ifCond .eq 18, 3) := by decide +kernel
theorem dX10_child_28 : decode cX10_child 28 = .ok (.iload 5, 2) := by decide +kernel
theorem dX10_child_30 : decode cX10_child 30 = .ok (.i2l, 1) := by decide +kernel
theorem dX10_child_31 : decode cX10_child 31 = .ok (.ldc2_w 261, 3) := by decide +kernel
theorem dX10_child_34 : decode cX10_child 34 = .ok (.ldc2_w 170, 3) := by decide +kernel
theorem dX10_child_37 : decode cX10_child 37 = .ok (.invokestatic 81, 3) := by decide +kernel
theorem dX10_child_40 : decode cX10_child 40 = .ok (.ifCond .ne 5, 3) := by decide +kernel
theorem dX10_child_43 : decode cX10_child 43 = .ok (.iconst (-1), 1) := by decide +kernel
theorem dX10_child_44 : decode cX10_child 44 = .ok (.ireturn, 1) := by decide +kernel
theorem dX10_child_45 : decode cX10_child 45 = .ok (.aload_n 0, 1) := by decide +kernel
theorem dX10_child_46 : decode cX10_child 46 = .ok (.iload 4, 2) := by decide +kernel
theorem dX10_child_48 : decode cX10_child 48 = .ok (.invokevirtual 263, 3) := by decide +kernel
theorem dX10_child_51 : decode cX10_child 51 = .ok (.bipush 7, 2) := by decide +kernel
theorem dX10_child_53 : decode cX10_child 53 = .ok (.iload_n 1, 1) := by decide +kernel
theorem dX10_child_54 : decode cX10_child 54 = .ok (.imul, 1) := by decide +kernel
theorem dX10_child_55 : decode cX10_child 55 = .ok (.iload_n 2, 1) := by decide +kernel
theorem dX10_child_56 : decode cX10_child 56 = .ok (.iadd, 1) := by decide +kernel
theorem dX10_child_57 : decode cX10_child 57 = .ok (.istore 6, 2) := by decide +kernel
theorem dX10_child_59 : decode cX10_child 59 = .ok (.aload_n 0, 1) := by decide +kernel
theorem dX10_child_60 : decode cX10_child 60 = .ok (.getfield 63, 3) := by decide +kernel
theorem dX10_child_63 : decode cX10_child 63 = .ok (.bipush 9, 2) := by decide +kernel
theorem dX10_child_65 : decode cX10_child 65 = .ok (.iload 6, 2) := by decide +kernel
theorem dX10_child_67 : decode cX10_child 67 = .ok (.imul, 1) := by decide +kernel
theorem dX10_child_68 : decode cX10_child 68 = .ok (.iload_n 3, 1) := by decide +kernel
theorem dX10_child_69 : decode cX10_child 69 = .ok (.iadd, 1) := by decide +kernel
theorem dX10_child_70 : decode cX10_child 70 = .ok (.iaload, 1) := by decide +kernel
theorem dX10_child_71 : decode cX10_child 71 = .ok (.istore 7, 2) := by decide +kernel
theorem dX10_child_73 : decode cX10_child 73 = .ok (.iload 5, 2) := by decide +kernel
theorem dX10_child_75 : decode cX10_child 75 = .ok (.iconst (-1), 1) := by decide +kernel
theorem dX10_child_76 : decode cX10_child 76 = .ok (.if_icmp .ne 6, 3) := by decide +kernel
theorem dX10_child_79 : decode cX10_child 79 = .ok (.iload 7, 2) := by decide +kernel
theorem dX10_child_81 : decode cX10_child 81 = .ok (.ireturn, 1) := by decide +kernel
theorem dX10_child_82 : decode cX10_child 82 = .ok (.iload 5, 2) := by decide +kernel
theorem dX10_child_84 : decode cX10_child 84 = .ok (.iload 7, 2) := by decide +kernel
theorem dX10_child_86 : decode cX10_child 86 = .ok (.if_icmp .lt 6, 3) := by decide +kernel
theorem dX10_child_89 : decode cX10_child 89 = .ok (.bipush (-9), 2) := by decide +kernel
theorem dX10_child_91 : decode cX10_child 91 = .ok (.ireturn, 1) := by decide +kernel
theorem dX10_child_92 : decode cX10_child 92 = .ok (.iconst 0, 1) := by decide +kernel
theorem dX10_child_93 : decode cX10_child 93 = .ok (.istore 8, 2) := by decide +kernel
theorem dX10_child_95 : decode cX10_child 95 = .ok (.iload 8, 2) := by decide +kernel
theorem dX10_child_97 : decode cX10_child 97 = .ok (.iload 5, 2) := by decide +kernel
theorem dX10_child_99 : decode cX10_child 99 = .ok (.if_icmp .ge 21, 3) := by decide +kernel
theorem dX10_child_102 : decode cX10_child 102 = .ok (.aload_n 0, 1) := by decide +kernel
theorem dX10_child_103 : decode cX10_child 103 = .ok (.iload 6, 2) := by decide +kernel
theorem dX10_child_105 : decode cX10_child 105 = .ok (.iload_n 3, 1) := by decide +kernel
theorem dX10_child_106 : decode cX10_child 106 = .ok (.iload 8, 2) := by decide +kernel
theorem dX10_child_108 : decode cX10_child 108 = .ok (.iadd, 1) := by decide +kernel
theorem dX10_child_109 : decode cX10_child 109 = .ok (.invokevirtual 258, 3) := by decide +kernel
theorem dX10_child_112 : decode cX10_child 112 = .ok (.istore 6, 2) := by decide +kernel
theorem dX10_child_114 : decode cX10_child 114 = .ok (.iinc 8 1, 3) := by decide +kernel
theorem dX10_child_117 : decode cX10_child 117 = .ok (.goto (-22), 3) := by decide +kernel
theorem dX10_child_120 : decode cX10_child 120 = .ok (.iload 6, 2) := by decide +kernel
theorem dX10_child_122 : decode cX10_child 122 = .ok (.ireturn, 1) := by decide +kernel
theorem dX10_hail_0 : decode cX10_hail 0 = .ok (.iload_n 1, 1) := by decide +kernel
theorem dX10_hail_1 : decode cX10_hail 1 = .ok (.iload_n 2, 1) := by decide +kernel
theorem dX10_hail_2 : decode cX10_hail 2 = .ok (.invokestatic 237, 3) := by decide +kernel
theorem dX10_hail_5 : decode cX10_hail 5 = .ok (.ifCond .eq 34, 3) := by decide +kernel
theorem dX10_hail_8 : decode cX10_hail 8 = .ok (.iload_n 3, 1) := by decide +kernel
theorem dX10_hail_9 : decode cX10_hail 9 = .ok (.invokestatic 240, 3) := by decide +kernel
theorem dX10_hail_12 : decode cX10_hail 12 = .ok (.ifCond .eq 27, 3) := by decide +kernel
theorem dX10_hail_15 : decode cX10_hail 15 = .ok (.iload 4, 2) := by decide +kernel
theorem dX10_hail_17 : decode cX10_hail 17 = .ok (.i2l, 1) := by decide +kernel
theorem dX10_hail_18 : decode cX10_hail 18 = .ok (.lconst 0, 1) := by decide +kernel
theorem dX10_hail_19 : decode cX10_hail 19 = .ok (.ldc2_w 267, 3) := by decide +kernel
theorem dX10_hail_22 : decode cX10_hail 22 = .ok (.invokestatic 81, 3) := by decide +kernel
theorem dX10_hail_25 : decode cX10_hail 25 = .ok (.ifCond .eq 14, 3) := by decide +kernel
theorem dX10_hail_28 : decode cX10_hail 28 = .ok (.iload 5, 2) := by decide +kernel
theorem dX10_hail_30 : decode cX10_hail 30 = .ok (.i2l, 1) := by decide +kernel
theorem dX10_hail_31 : decode cX10_hail 31 = .ok (.lconst 0, 1) := by decide +kernel
theorem dX10_hail_32 : decode cX10_hail 32 = .ok (.lconst 1, 1) := by decide +kernel
theorem dX10_hail_33 : decode cX10_hail 33 = .ok (.invokestatic 81, 3) := by decide +kernel
theorem dX10_hail_36 : decode cX10_hail 36 = .ok (.ifCond .ne 5, 3) := by decide +kernel
theorem dX10_hail_39 : decode cX10_hail 39 = .ok (.iconst (-1), 1) := by decide +kernel
theorem dX10_hail_40 : decode cX10_hail 40 = .ok (.ireturn, 1) := by decide +kernel
theorem dX10_hail_41 : decode cX10_hail 41 = .ok (.aload_n 0, 1) := by decide +kernel
theorem dX10_hail_42 : decode cX10_hail 42 = .ok (.aload_n 0, 1) := by decide +kernel
theorem dX10_hail_43 : decode cX10_hail 43 = .ok (.getfield 23, 3) := by decide +kernel
theorem dX10_hail_46 : decode cX10_hail 46 = .ok (.iload_n 1, 1) := by decide +kernel
theorem dX10_hail_47 : decode cX10_hail 47 = .ok (.iload_n 2, 1) := by decide +kernel
theorem dX10_hail_48 : decode cX10_hail 48 = .ok (.iload_n 3, 1) := by decide +kernel
theorem dX10_hail_49 : decode cX10_hail 49 = .ok (.iconst 0, 1) := by decide +kernel
theorem dX10_hail_50 : decode cX10_hail 50 = .ok (.invokevirtual 186, 3) := by decide +kernel
theorem dX10_hail_53 : decode cX10_hail 53 = .ok (.istore 6, 2) := by decide +kernel
theorem dX10_hail_55 : decode cX10_hail 55 = .ok (.aload_n 0, 1) := by decide +kernel
theorem dX10_hail_56 : decode cX10_hail 56 = .ok (.aload_n 0, 1) := by decide +kernel
theorem dX10_hail_57 : decode cX10_hail 57 = .ok (.getfield 23, 3) := by decide +kernel
theorem dX10_hail_60 : decode cX10_hail 60 = .ok (.iload_n 1, 1) := by decide +kernel
theorem dX10_hail_61 : decode cX10_hail 61 = .ok (.iload_n 2, 1) := by decide +kernel
theorem dX10_hail_62 : decode cX10_hail 62 = .ok (.iload_n 3, 1) := by decide +kernel
theorem dX10_hail_63 : decode cX10_hail 63 = .ok (.iconst 1, 1) := by decide +kernel
theorem dX10_hail_64 : decode cX10_hail 64 = .ok (.invokevirtual 186, 3) := by decide +kernel
theorem dX10_hail_67 : decode cX10_hail 67 = .ok (.istore 7, 2) := by decide +kernel
theorem dX10_hail_69 : decode cX10_hail 69 = .ok (.iconst 0, 1) := by decide +kernel
theorem dX10_hail_70 : decode cX10_hail 70 = .ok (.istore 8, 2) := by decide +kernel
theorem dX10_hail_72 : decode cX10_hail 72 = .ok (.iconst 0, 1) := by decide +kernel
theorem dX10_hail_73 : decode cX10_hail 73 = .ok (.istore 9, 2) := by decide +kernel
theorem dX10_hail_75 : decode cX10_hail 75 = .ok (.iload 9, 2) := by decide +kernel
theorem dX10_hail_77 : decode cX10_hail 77 = .ok (.iconst 4, 1) := by decide +kernel
theorem dX10_hail_78 : decode cX10_hail 78 = .ok (.if_icmp .ge 142, 3) := by decide +kernel
theorem dX10_hail_81 : decode cX10_hail 81 = .ok (.aload_n 0, 1) := by decide +kernel
theorem dX10_hail_82 : decode cX10_hail 82 = .ok (.getfield 23, 3) := by decide +kernel
theorem dX10_hail_85 : decode cX10_hail 85 = .ok (.iconst 0, 1) := by decide +kernel
theorem dX10_hail_86 : decode cX10_hail 86 = .ok (.aload_n 0, 1) := by decide +kernel
theorem dX10_hail_87 : decode cX10_hail 87 = .ok (.getfield 26, 3) := by decide +kernel
theorem dX10_hail_90 : decode cX10_hail 90 = .ok (.iconst 0, 1) := by decide +kernel
theorem dX10_hail_91 : decode cX10_hail 91 = .ok (.bipush 11, 2) := by decide +kernel
theorem dX10_hail_93 : decode cX10_hail 93 = .ok (.invokestatic 162, 3) := by decide +kernel
theorem dX10_hail_96 : decode cX10_hail 96 = .ok (.iload 9, 2) := by decide +kernel
theorem dX10_hail_98 : decode cX10_hail 98 = .ok (.iconst 0, 1) := by decide +kernel
theorem dX10_hail_99 : decode cX10_hail 99 = .ok (.invokestatic 172, 3) := by decide +kernel
theorem dX10_hail_102 : decode cX10_hail 102 = .ok (.ifCond .eq 19, 3) := by decide +kernel
theorem dX10_hail_105 : decode cX10_hail 105 = .ok (.iload 6, 2) := by decide +kernel
theorem dX10_hail_107 : decode cX10_hail 107 = .ok (.bipush (-9), 2) := by decide +kernel
theorem dX10_hail_109 : decode cX10_hail 109 = .ok (.if_icmp .eq 12, 3) := by decide +kernel
theorem dX10_hail_112 : decode cX10_hail 112 = .ok (.aload_n 0, 1) := by decide +kernel
theorem dX10_hail_113 : decode cX10_hail 113 = .ok (.getfield 26, 3) := by decide +kernel
theorem dX10_hail_116 : decode cX10_hail 116 = .ok (.iload 6, 2) := by decide +kernel
theorem dX10_hail_118 : decode cX10_hail 118 = .ok (.invokestatic 207, 3) := by decide +kernel
theorem dX10_hail_121 : decode cX10_hail 121 = .ok (.iload 9, 2) := by decide +kernel
theorem dX10_hail_123 : decode cX10_hail 123 = .ok (.iconst 1, 1) := by decide +kernel
theorem dX10_hail_124 : decode cX10_hail 124 = .ok (.invokestatic 172, 3) := by decide +kernel
theorem dX10_hail_127 : decode cX10_hail 127 = .ok (.ifCond .eq 19, 3) := by decide +kernel
theorem dX10_hail_130 : decode cX10_hail 130 = .ok (.iload 7, 2) := by decide +kernel
theorem dX10_hail_132 : decode cX10_hail 132 = .ok (.bipush (-9), 2) := by decide +kernel
theorem dX10_hail_134 : decode cX10_hail 134 = .ok (.if_icmp .eq 12, 3) := by decide +kernel
theorem dX10_hail_137 : decode cX10_hail 137 = .ok (.aload_n 0, 1) := by decide +kernel
theorem dX10_hail_138 : decode cX10_hail 138 = .ok (.getfield 26, 3) := by decide +kernel
theorem dX10_hail_141 : decode cX10_hail 141 = .ok (.iload 7, 2) := by decide +kernel
theorem dX10_hail_143 : decode cX10_hail 143 = .ok (.invokestatic 207, 3) := by decide +kernel
theorem dX10_hail_146 : decode cX10_hail 146 = .ok (.iload 9, 2) := by decide +kernel
theorem dX10_hail_148 : decode cX10_hail 148 = .ok (.iconst 0, 1) := by decide +kernel
theorem dX10_hail_149 : decode cX10_hail 149 = .ok (.invokestatic 172, 3) := by decide +kernel
theorem dX10_hail_152 : decode cX10_hail 152 = .ok (.ifCond .eq 8, 3) := by decide +kernel
theorem dX10_hail_155 : decode cX10_hail 155 = .ok (.iload 4, 2) := by decide +kernel
theorem dX10_hail_157 : decode cX10_hail 157 = .ok (.goto 8, 3) := by decide +kernel
theorem dX10_hail_160 : decode cX10_hail 160 = .ok (.bipush 10, 2) := by decide +kernel
theorem dX10_hail_162 : decode cX10_hail 162 = .ok (.iload 4, 2) := by decide +kernel
theorem dX10_hail_164 : decode cX10_hail 164 = .ok (.isub, 1) := by decide +kernel
theorem dX10_hail_165 : decode cX10_hail 165 = .ok (.iload 9, 2) := by decide +kernel
theorem dX10_hail_167 : decode cX10_hail 167 = .ok (.iconst 1, 1) := by decide +kernel
theorem dX10_hail_168 : decode cX10_hail 168 = .ok (.invokestatic 172, 3) := by decide +kernel
theorem dX10_hail_171 : decode cX10_hail 171 = .ok (.ifCond .eq 8, 3) := by decide +kernel
theorem dX10_hail_174 : decode cX10_hail 174 = .ok (.iload 4, 2) := by decide +kernel
theorem dX10_hail_176 : decode cX10_hail 176 = .ok (.goto 8, 3) := by decide +kernel
theorem dX10_hail_179 : decode cX10_hail 179 = .ok (.bipush 10, 2) := by decide +kernel
theorem dX10_hail_181 : decode cX10_hail 181 = .ok (.iload 4, 2) := by decide +kernel
theorem dX10_hail_183 : decode cX10_hail 183 = .ok (.isub, 1) := by decide +kernel
theorem dX10_hail_184 : decode cX10_hail 184 = .ok (.imul, 1) := by decide +kernel
theorem dX10_hail_185 : decode cX10_hail 185 = .ok (.istore 10, 2) := by decide +kernel
theorem dX10_hail_187 : decode cX10_hail 187 = .ok (.iload 8, 2) := by decide +kernel
theorem dX10_hail_189 : decode cX10_hail 189 = .ok (.aload_n 0, 1) := by decide +kernel
theorem dX10_hail_190 : decode cX10_hail 190 = .ok (.aload_n 0, 1) := by decide +kernel
theorem dX10_hail_191 : decode cX10_hail 191 = .ok (.getfield 26, 3) := by decide +kernel
theorem dX10_hail_194 : decode cX10_hail 194 = .ok (.iload_n 1, 1) := by decide +kernel
theorem dX10_hail_195 : decode cX10_hail 195 = .ok (.iload_n 2, 1) := by decide +kernel
theorem dX10_hail_196 : decode cX10_hail 196 = .ok (.iload_n 3, 1) := by decide +kernel
theorem dX10_hail_197 : decode cX10_hail 197 = .ok (.invokevirtual 193, 3) := by decide +kernel
theorem dX10_hail_200 : decode cX10_hail 200 = .ok (.bipush 7, 2) := by decide +kernel
theorem dX10_hail_202 : decode cX10_hail 202 = .ok (.if_icmp .ne 8, 3) := by decide +kernel
theorem dX10_hail_205 : decode cX10_hail 205 = .ok (.iload 10, 2) := by decide +kernel
theorem dX10_hail_207 : decode cX10_hail 207 = .ok (.goto 4, 3) := by decide +kernel
theorem dX10_hail_210 : decode cX10_hail 210 = .ok (.iconst 0, 1) := by decide +kernel
theorem dX10_hail_211 : decode cX10_hail 211 = .ok (.iadd, 1) := by decide +kernel
theorem dX10_hail_212 : decode cX10_hail 212 = .ok (.istore 8, 2) := by decide +kernel
theorem dX10_hail_214 : decode cX10_hail 214 = .ok (.iinc 9 1, 3) := by decide +kernel
theorem dX10_hail_217 : decode cX10_hail 217 = .ok (.goto (-142), 3) := by decide +kernel
theorem dX10_hail_220 : decode cX10_hail 220 = .ok (.iload 8, 2) := by decide +kernel
theorem dX10_hail_222 : decode cX10_hail 222 = .ok (.istore 9, 2) := by decide +kernel
theorem dX10_hail_224 : decode cX10_hail 224 = .ok (.bipush 100, 2) := by decide +kernel
theorem dX10_hail_226 : decode cX10_hail 226 = .ok (.istore 10, 2) := by decide +kernel
theorem dX10_hail_228 : decode cX10_hail 228 = .ok (.iload 10, 2) := by decide +kernel
theorem dX10_hail_230 : decode cX10_hail 230 = .ok (.ifCond .eq 21, 3) := by decide +kernel
theorem dX10_hail_233 : decode cX10_hail 233 = .ok (.iload 9, 2) := by decide +kernel
theorem dX10_hail_235 : decode cX10_hail 235 = .ok (.iload 10, 2) := by decide +kernel
theorem dX10_hail_237 : decode cX10_hail 237 = .ok (.irem, 1) := by decide +kernel
theorem dX10_hail_238 : decode cX10_hail 238 = .ok (.istore 11, 2) := by decide +kernel
theorem dX10_hail_240 : decode cX10_hail 240 = .ok (.iload 10, 2) := by decide +kernel
theorem dX10_hail_242 : decode cX10_hail 242 = .ok (.istore 9, 2) := by decide +kernel
theorem dX10_hail_244 : decode cX10_hail 244 = .ok (.iload 11, 2) := by decide +kernel
theorem dX10_hail_246 : decode cX10_hail 246 = .ok (.istore 10, 2) := by decide +kernel
theorem dX10_hail_248 : decode cX10_hail 248 = .ok (.goto (-20), 3) := by decide +kernel
theorem dX10_hail_251 : decode cX10_hail 251 = .ok (.iload 5, 2) := by decide +kernel
theorem dX10_hail_253 : decode cX10_hail 253 = .ok (.ifCond .ne 11, 3) := by decide +kernel
theorem dX10_hail_256 : decode cX10_hail 256 = .ok (.iload 8, 2) := by decide +kernel
theorem dX10_hail_258 : decode cX10_hail 258 = .ok (.iload 9, 2) := by decide +kernel
theorem dX10_hail_260 : decode cX10_hail 260 = .ok (.idiv, 1) := by decide +kernel
theorem dX10_hail_261 : decode cX10_hail 261 = .ok (.goto 8, 3) := by decide +kernel
theorem dX10_hail_264 : decode cX10_hail 264 = .ok (.bipush 100, 2) := by decide +kernel
theorem dX10_hail_266 : decode cX10_hail 266 = .ok (.iload 9, 2) := by decide +kernel
theorem dX10_hail_268 : decode cX10_hail 268 = .ok (.idiv, 1) := by decide +kernel
theorem dX10_hail_269 : decode cX10_hail 269 = .ok (.ireturn, 1) := by decide +kernel
theorem dX10_saw_0 : decode cX10_saw 0 = .ok (.iload_n 1, 1) := by decide +kernel
theorem dX10_saw_1 : decode cX10_saw 1 = .ok (.iload_n 2, 1) := by decide +kernel
theorem dX10_saw_2 : decode cX10_saw 2 = .ok (.invokestatic 237, 3) := by decide +kernel
theorem dX10_saw_5 : decode cX10_saw 5 = .ok (.ifCond .eq 18, 3) := by decide +kernel
theorem dX10_saw_8 : decode cX10_saw 8 = .ok (.iload_n 3, 1) := by decide +kernel
theorem dX10_saw_9 : decode cX10_saw 9 = .ok (.invokestatic 240, 3) := by decide +kernel
theorem dX10_saw_12 : decode cX10_saw 12 = .ok (.ifCond .eq 11, 3) := by decide +kernel
theorem dX10_saw_15 : decode cX10_saw 15 = .ok (.iload 4, 2) := by decide +kernel
theorem dX10_saw_17 : decode cX10_saw 17 = .ok (.invokestatic 243, 3) := by decide +kernel
theorem dX10_saw_20 : decode cX10_saw 20 = .ok (.ifCond .ne 5, 3) := by decide +kernel
theorem dX10_saw_23 : decode cX10_saw 23 = .ok (.iconst (-1), 1) := by decide +kernel
theorem dX10_saw_24 : decode cX10_saw 24 = .ok (.ireturn, 1) := by decide +kernel
theorem dX10_saw_25 : decode cX10_saw 25 = .ok (.aload_n 0, 1) := by decide +kernel
theorem dX10_saw_26 : decode cX10_saw 26 = .ok (.getfield 76, 3) := by decide +kernel
theorem dX10_saw_29 : decode cX10_saw 29 = .ok (.bipush 6, 2) := by decide +kernel
theorem dX10_saw_31 : decode cX10_saw 31 = .ok (.if_icmp .ne 6, 3) := by decide +kernel
theorem dX10_saw_34 : decode cX10_saw 34 = .ok (.bipush (-3), 2) := by decide +kernel
theorem dX10_saw_36 : decode cX10_saw 36 = .ok (.ireturn, 1) := by decide +kernel
theorem dX10_saw_37 : decode cX10_saw 37 = .ok (.aload_n 0, 1) := by decide +kernel
theorem dX10_saw_38 : decode cX10_saw 38 = .ok (.getfield 45, 3) := by decide +kernel
theorem dX10_saw_41 : decode cX10_saw 41 = .ok (.iconst 4, 1) := by decide +kernel
theorem dX10_saw_42 : decode cX10_saw 42 = .ok (.aload_n 0, 1) := by decide +kernel
theorem dX10_saw_43 : decode cX10_saw 43 = .ok (.getfield 76, 3) := by decide +kernel
theorem dX10_saw_46 : decode cX10_saw 46 = .ok (.imul, 1) := by decide +kernel
theorem dX10_saw_47 : decode cX10_saw 47 = .ok (.iload_n 1, 1) := by decide +kernel
theorem dX10_saw_48 : decode cX10_saw 48 = .ok (.iastore, 1) := by decide +kernel
theorem dX10_saw_49 : decode cX10_saw 49 = .ok (.aload_n 0, 1) := by decide +kernel
theorem dX10_saw_50 : decode cX10_saw 50 = .ok (.getfield 45, 3) := by decide +kernel
theorem dX10_saw_53 : decode cX10_saw 53 = .ok (.iconst 4, 1) := by decide +kernel
theorem dX10_saw_54 : decode cX10_saw 54 = .ok (.aload_n 0, 1) := by decide +kernel
theorem dX10_saw_55 : decode cX10_saw 55 = .ok (.getfield 76, 3) := by decide +kernel
theorem dX10_saw_58 : decode cX10_saw 58 = .ok (.imul, 1) := by decide +kernel
theorem dX10_saw_59 : decode cX10_saw 59 = .ok (.iconst 1, 1) := by decide +kernel
theorem dX10_saw_60 : decode cX10_saw 60 = .ok (.iadd, 1) := by decide +kernel
theorem dX10_saw_61 : decode cX10_saw 61 = .ok (.iload_n 2, 1) := by decide +kernel
theorem dX10_saw_62 : decode cX10_saw 62 = .ok (.iastore, 1) := by decide +kernel
theorem dX10_saw_63 : decode cX10_saw 63 = .ok (.aload_n 0, 1) := by decide +kernel
theorem dX10_saw_64 : decode cX10_saw 64 = .ok (.getfield 45, 3) := by decide +kernel
theorem dX10_saw_67 : decode cX10_saw 67 = .ok (.iconst 4, 1) := by decide +kernel
theorem dX10_saw_68 : decode cX10_saw 68 = .ok (.aload_n 0, 1) := by decide +kernel
theorem dX10_saw_69 : decode cX10_saw 69 = .ok (.getfield 76, 3) := by decide +kernel
theorem dX10_saw_72 : decode cX10_saw 72 = .ok (.imul, 1) := by decide +kernel
theorem dX10_saw_73 : decode cX10_saw 73 = .ok (.iconst 2, 1) := by decide +kernel
theorem dX10_saw_74 : decode cX10_saw 74 = .ok (.iadd, 1) := by decide +kernel
theorem dX10_saw_75 : decode cX10_saw 75 = .ok (.iload_n 3, 1) := by decide +kernel
theorem dX10_saw_76 : decode cX10_saw 76 = .ok (.iastore, 1) := by decide +kernel
theorem dX10_saw_77 : decode cX10_saw 77 = .ok (.aload_n 0, 1) := by decide +kernel
theorem dX10_saw_78 : decode cX10_saw 78 = .ok (.getfield 45, 3) := by decide +kernel
theorem dX10_saw_81 : decode cX10_saw 81 = .ok (.iconst 4, 1) := by decide +kernel
theorem dX10_saw_82 : decode cX10_saw 82 = .ok (.aload_n 0, 1) := by decide +kernel
theorem dX10_saw_83 : decode cX10_saw 83 = .ok (.getfield 76, 3) := by decide +kernel
theorem dX10_saw_86 : decode cX10_saw 86 = .ok (.imul, 1) := by decide +kernel
theorem dX10_saw_87 : decode cX10_saw 87 = .ok (.iconst 3, 1) := by decide +kernel
theorem dX10_saw_88 : decode cX10_saw 88 = .ok (.iadd, 1) := by decide +kernel
theorem dX10_saw_89 : decode cX10_saw 89 = .ok (.iload 4, 2) := by decide +kernel
theorem dX10_saw_91 : decode cX10_saw 91 = .ok (.iastore, 1) := by decide +kernel
theorem dX10_saw_92 : decode cX10_saw 92 = .ok (.aload_n 0, 1) := by decide +kernel
theorem dX10_saw_93 : decode cX10_saw 93 = .ok (.dup, 1) := by decide +kernel
theorem dX10_saw_94 : decode cX10_saw 94 = .ok (.getfield 76, 3) := by decide +kernel
theorem dX10_saw_97 : decode cX10_saw 97 = .ok (.iconst 1, 1) := by decide +kernel
theorem dX10_saw_98 : decode cX10_saw 98 = .ok (.iadd, 1) := by decide +kernel
theorem dX10_saw_99 : decode cX10_saw 99 = .ok (.putfield 76, 3) := by decide +kernel
theorem dX10_saw_102 : decode cX10_saw 102 = .ok (.aload_n 0, 1) := by decide +kernel
theorem dX10_saw_103 : decode cX10_saw 103 = .ok (.getfield 76, 3) := by decide +kernel
theorem dX10_saw_106 : decode cX10_saw 106 = .ok (.ireturn, 1) := by decide +kernel
theorem dX10_forget_0 : decode cX10_forget 0 = .ok (.aload_n 0, 1) := by decide +kernel
theorem dX10_forget_1 : decode cX10_forget 1 = .ok (.getfield 76, 3) := by decide +kernel
theorem dX10_forget_4 : decode cX10_forget 4 = .ok (.istore_n 1, 1) := by decide +kernel
theorem dX10_forget_5 : decode cX10_forget 5 = .ok (.aload_n 0, 1) := by decide +kernel
theorem dX10_forget_6 : decode cX10_forget 6 = .ok (.iconst 0, 1) := by decide +kernel
theorem dX10_forget_7 : decode cX10_forget 7 = .ok (.putfield 76, 3) := by decide +kernel
theorem dX10_forget_10 : decode cX10_forget 10 = .ok (.iload_n 1, 1) := by decide +kernel
theorem dX10_forget_11 : decode cX10_forget 11 = .ok (.ireturn, 1) := by decide +kernel
theorem dX10_isSo_0 : decode cX10_isSo 0 = .ok (.iconst 1, 1) := by decide +kernel
theorem dX10_isSo_1 : decode cX10_isSo 1 = .ok (.istore_n 2, 1) := by decide +kernel
theorem dX10_isSo_2 : decode cX10_isSo 2 = .ok (.iconst 0, 1) := by decide +kernel
theorem dX10_isSo_3 : decode cX10_isSo 3 = .ok (.istore_n 3, 1) := by decide +kernel
theorem dX10_isSo_4 : decode cX10_isSo 4 = .ok (.iload_n 3, 1) := by decide +kernel
theorem dX10_isSo_5 : decode cX10_isSo 5 = .ok (.iconst 4, 1) := by decide +kernel
theorem dX10_isSo_6 : decode cX10_isSo 6 = .ok (.aload_n 0, 1) := by decide +kernel
theorem dX10_isSo_7 : decode cX10_isSo 7 = .ok (.getfield 76, 3) := by decide +kernel
theorem dX10_isSo_10 : decode cX10_isSo 10 = .ok (.imul, 1) := by decide +kernel
theorem dX10_isSo_11 : decode cX10_isSo 11 = .ok (.if_icmp .ge 57, 3) := by decide +kernel
theorem dX10_isSo_14 : decode cX10_isSo 14 = .ok (.iload_n 2, 1) := by decide +kernel
theorem dX10_isSo_15 : decode cX10_isSo 15 = .ok (.ifCond .eq 45, 3) := by decide +kernel
theorem dX10_isSo_18 : decode cX10_isSo 18 = .ok (.aload_n 0, 1) := by decide +kernel
theorem dX10_isSo_19 : decode cX10_isSo 19 = .ok (.aload_n 1, 1) := by decide +kernel
theorem dX10_isSo_20 : decode cX10_isSo 20 = .ok (.aload_n 0, 1) := by decide +kernel
theorem dX10_isSo_21 : decode cX10_isSo 21 = .ok (.getfield 45, 3) := by decide +kernel
theorem dX10_isSo_24 : decode cX10_isSo 24 = .ok (.iload_n 3, 1) := by decide +kernel
theorem dX10_isSo_25 : decode cX10_isSo 25 = .ok (.iaload, 1) := by decide +kernel
theorem dX10_isSo_26 : decode cX10_isSo 26 = .ok (.aload_n 0, 1) := by decide +kernel
theorem dX10_isSo_27 : decode cX10_isSo 27 = .ok (.getfield 45, 3) := by decide +kernel
theorem dX10_isSo_30 : decode cX10_isSo 30 = .ok (.iload_n 3, 1) := by decide +kernel
theorem dX10_isSo_31 : decode cX10_isSo 31 = .ok (.iconst 1, 1) := by decide +kernel
theorem dX10_isSo_32 : decode cX10_isSo 32 = .ok (.iadd, 1) := by decide +kernel
theorem dX10_isSo_33 : decode cX10_isSo 33 = .ok (.iaload, 1) := by decide +kernel
theorem dX10_isSo_34 : decode cX10_isSo 34 = .ok (.aload_n 0, 1) := by decide +kernel
theorem dX10_isSo_35 : decode cX10_isSo 35 = .ok (.getfield 45, 3) := by decide +kernel
theorem dX10_isSo_38 : decode cX10_isSo 38 = .ok (.iload_n 3, 1) := by decide +kernel
theorem dX10_isSo_39 : decode cX10_isSo 39 = .ok (.iconst 2, 1) := by decide +kernel
theorem dX10_isSo_40 : decode cX10_isSo 40 = .ok (.iadd, 1) := by decide +kernel
theorem dX10_isSo_41 : decode cX10_isSo 41 = .ok (.iaload, 1) := by decide +kernel
theorem dX10_isSo_42 : decode cX10_isSo 42 = .ok (.invokevirtual 193, 3) := by decide +kernel
theorem dX10_isSo_45 : decode cX10_isSo 45 = .ok (.aload_n 0, 1) := by decide +kernel
theorem dX10_isSo_46 : decode cX10_isSo 46 = .ok (.getfield 45, 3) := by decide +kernel
theorem dX10_isSo_49 : decode cX10_isSo 49 = .ok (.iload_n 3, 1) := by decide +kernel
theorem dX10_isSo_50 : decode cX10_isSo 50 = .ok (.iconst 3, 1) := by decide +kernel
theorem dX10_isSo_51 : decode cX10_isSo 51 = .ok (.iadd, 1) := by decide +kernel
theorem dX10_isSo_52 : decode cX10_isSo 52 = .ok (.iaload, 1) := by decide +kernel
theorem dX10_isSo_53 : decode cX10_isSo 53 = .ok (.if_icmp .ne 7, 3) := by decide +kernel
theorem dX10_isSo_56 : decode cX10_isSo 56 = .ok (.iconst 1, 1) := by decide +kernel
theorem dX10_isSo_57 : decode cX10_isSo 57 = .ok (.goto 4, 3) := by decide +kernel
theorem dX10_isSo_60 : decode cX10_isSo 60 = .ok (.iconst 0, 1) := by decide +kernel
theorem dX10_isSo_61 : decode cX10_isSo 61 = .ok (.istore_n 2, 1) := by decide +kernel
theorem dX10_isSo_62 : decode cX10_isSo 62 = .ok (.iinc 3 4, 3) := by decide +kernel
theorem dX10_isSo_65 : decode cX10_isSo 65 = .ok (.goto (-61), 3) := by decide +kernel
theorem dX10_isSo_68 : decode cX10_isSo 68 = .ok (.iload_n 2, 1) := by decide +kernel
theorem dX10_isSo_69 : decode cX10_isSo 69 = .ok (.ireturn, 1) := by decide +kernel
theorem dX10_layBroken_0 : decode cX10_layBroken 0 = .ok (.aload_n 0, 1) := by decide +kernel
theorem dX10_layBroken_1 : decode cX10_layBroken 1 = .ok (.getfield 23, 3) := by decide +kernel
theorem dX10_layBroken_4 : decode cX10_layBroken 4 = .ok (.iconst 0, 1) := by decide +kernel
theorem dX10_layBroken_5 : decode cX10_layBroken 5 = .ok (.aload_n 0, 1) := by decide +kernel
theorem dX10_layBroken_6 : decode cX10_layBroken 6 = .ok (.getfield 26, 3) := by decide +kernel
theorem dX10_layBroken_9 : decode cX10_layBroken 9 = .ok (.iconst 0, 1) := by decide +kernel
theorem dX10_layBroken_10 : decode cX10_layBroken 10 = .ok (.bipush 11, 2) := by decide +kernel
theorem dX10_layBroken_12 : decode cX10_layBroken 12 = .ok (.invokestatic 162, 3) := by decide +kernel
theorem dX10_layBroken_15 : decode cX10_layBroken 15 = .ok (.iload_n 1, 1) := by decide +kernel
theorem dX10_layBroken_16 : decode cX10_layBroken 16 = .ok (.bipush 20, 2) := by decide +kernel
theorem dX10_layBroken_18 : decode cX10_layBroken 18 = .ok (.if_icmp .ge 11, 3) := by decide +kernel
theorem dX10_layBroken_21 : decode cX10_layBroken 21 = .ok (.aload_n 0, 1) := by decide +kernel
theorem dX10_layBroken_22 : decode cX10_layBroken 22 = .ok (.getfield 26, 3) := by decide +kernel
theorem dX10_layBroken_25 : decode cX10_layBroken 25 = .ok (.iload_n 1, 1) := by decide +kernel
theorem dX10_layBroken_26 : decode cX10_layBroken 26 = .ok (.invokestatic 207, 3) := by decide +kernel
theorem dX10_layBroken_29 : decode cX10_layBroken 29 = .ok (.return_, 1) := by decide +kernel
theorem dX10_mayBe_0 : decode cX10_mayBe 0 = .ok (.iload_n 1, 1) := by decide +kernel
theorem dX10_mayBe_1 : decode cX10_mayBe 1 = .ok (.bipush 20, 2) := by decide +kernel
theorem dX10_mayBe_3 : decode cX10_mayBe 3 = .ok (.if_icmp .eq 30, 3) := by decide +kernel
theorem dX10_mayBe_6 : decode cX10_mayBe 6 = .ok (.aload_n 0, 1) := by decide +kernel
theorem dX10_mayBe_7 : decode cX10_mayBe 7 = .ok (.iload_n 1, 1) := by decide +kernel
theorem dX10_mayBe_8 : decode cX10_mayBe 8 = .ok (.iconst 4, 1) := by decide +kernel
theorem dX10_mayBe_9 : decode cX10_mayBe 9 = .ok (.idiv, 1) := by decide +kernel
theorem dX10_mayBe_10 : decode cX10_mayBe 10 = .ok (.iload_n 1, 1) := by decide +kernel
theorem dX10_mayBe_11 : decode cX10_mayBe 11 = .ok (.iconst 4, 1) := by decide +kernel
theorem dX10_mayBe_12 : decode cX10_mayBe 12 = .ok (.irem, 1) := by decide +kernel
theorem dX10_mayBe_13 : decode cX10_mayBe 13 = .ok (.invokevirtual 183, 3) := by decide +kernel
theorem dX10_mayBe_16 : decode cX10_mayBe 16 = .ok (.ifCond .eq 21, 3) := by decide +kernel
theorem dX10_mayBe_19 : decode cX10_mayBe 19 = .ok (.aload_n 0, 1) := by decide +kernel
theorem dX10_mayBe_20 : decode cX10_mayBe 20 = .ok (.getfield 23, 3) := by decide +kernel
theorem dX10_mayBe_23 : decode cX10_mayBe 23 = .ok (.bipush 8, 2) := by decide +kernel
theorem dX10_mayBe_25 : decode cX10_mayBe 25 = .ok (.iaload, 1) := by decide +kernel
theorem dX10_mayBe_26 : decode cX10_mayBe 26 = .ok (.iload_n 1, 1) := by decide +kernel
theorem dX10_mayBe_27 : decode cX10_mayBe 27 = .ok (.invokestatic 172, 3) := by decide +kernel
theorem dX10_mayBe_30 : decode cX10_mayBe 30 = .ok (.ifCond .ne 7, 3) := by decide +kernel
theorem dX10_mayBe_33 : decode cX10_mayBe 33 = .ok (.iconst 1, 1) := by decide +kernel
theorem dX10_mayBe_34 : decode cX10_mayBe 34 = .ok (.goto 4, 3) := by decide +kernel
theorem dX10_mayBe_37 : decode cX10_mayBe 37 = .ok (.iconst 0, 1) := by decide +kernel
theorem dX10_mayBe_38 : decode cX10_mayBe 38 = .ok (.ireturn, 1) := by decide +kernel
theorem dX10_suspects_0 : decode cX10_suspects 0 = .ok (.iconst 0, 1) := by decide +kernel
theorem dX10_suspects_1 : decode cX10_suspects 1 = .ok (.istore_n 1, 1) := by decide +kernel
theorem dX10_suspects_2 : decode cX10_suspects 2 = .ok (.iconst 0, 1) := by decide +kernel
theorem dX10_suspects_3 : decode cX10_suspects 3 = .ok (.istore_n 2, 1) := by decide +kernel
theorem dX10_suspects_4 : decode cX10_suspects 4 = .ok (.iload_n 2, 1) := by decide +kernel
theorem dX10_suspects_5 : decode cX10_suspects 5 = .ok (.bipush 21, 2) := by decide +kernel
theorem dX10_suspects_7 : decode cX10_suspects 7 = .ok (.if_icmp .ge 43, 3) := by decide +kernel
theorem dX10_suspects_10 : decode cX10_suspects 10 = .ok (.aload_n 0, 1) := by decide +kernel
theorem dX10_suspects_11 : decode cX10_suspects 11 = .ok (.iload_n 2, 1) := by decide +kernel
theorem dX10_suspects_12 : decode cX10_suspects 12 = .ok (.invokevirtual 269, 3) := by decide +kernel
theorem dX10_suspects_15 : decode cX10_suspects 15 = .ok (.ifCond .eq 29, 3) := by decide +kernel
theorem dX10_suspects_18 : decode cX10_suspects 18 = .ok (.aload_n 0, 1) := by decide +kernel
theorem dX10_suspects_19 : decode cX10_suspects 19 = .ok (.iload_n 2, 1) := by decide +kernel
theorem dX10_suspects_20 : decode cX10_suspects 20 = .ok (.invokevirtual 272, 3) := by decide +kernel
theorem dX10_suspects_23 : decode cX10_suspects 23 = .ok (.iload_n 1, 1) := by decide +kernel
theorem dX10_suspects_24 : decode cX10_suspects 24 = .ok (.aload_n 0, 1) := by decide +kernel
theorem dX10_suspects_25 : decode cX10_suspects 25 = .ok (.aload_n 0, 1) := by decide +kernel
theorem dX10_suspects_26 : decode cX10_suspects 26 = .ok (.getfield 26, 3) := by decide +kernel
theorem dX10_suspects_29 : decode cX10_suspects 29 = .ok (.invokevirtual 275, 3) := by decide +kernel
theorem dX10_suspects_32 : decode cX10_suspects 32 = .ok (.ifCond .eq 9, 3) := by decide +kernel
theorem dX10_suspects_35 : decode cX10_suspects 35 = .ok (.iconst 1, 1) := by decide +kernel
theorem dX10_suspects_36 : decode cX10_suspects 36 = .ok (.iload_n 2, 1) := by decide +kernel
theorem dX10_suspects_37 : decode cX10_suspects 37 = .ok (.ishl, 1) := by decide +kernel
theorem dX10_suspects_38 : decode cX10_suspects 38 = .ok (.goto 4, 3) := by decide +kernel
theorem dX10_suspects_41 : decode cX10_suspects 41 = .ok (.iconst 0, 1) := by decide +kernel
theorem dX10_suspects_42 : decode cX10_suspects 42 = .ok (.ior, 1) := by decide +kernel
theorem dX10_suspects_43 : decode cX10_suspects 43 = .ok (.istore_n 1, 1) := by decide +kernel
theorem dX10_suspects_44 : decode cX10_suspects 44 = .ok (.iinc 2 1, 3) := by decide +kernel
theorem dX10_suspects_47 : decode cX10_suspects 47 = .ok (.goto (-43), 3) := by decide +kernel
theorem dX10_suspects_50 : decode cX10_suspects 50 = .ok (.iload_n 1, 1) := by decide +kernel
theorem dX10_suspects_51 : decode cX10_suspects 51 = .ok (.ireturn, 1) := by decide +kernel
theorem dX10_glasses_0 : decode cX10_glasses 0 = .ok (.aload_n 0, 1) := by decide +kernel
theorem dX10_glasses_1 : decode cX10_glasses 1 = .ok (.iload_n 1, 1) := by decide +kernel
theorem dX10_glasses_2 : decode cX10_glasses 2 = .ok (.iload_n 2, 1) := by decide +kernel
theorem dX10_glasses_3 : decode cX10_glasses 3 = .ok (.invokevirtual 183, 3) := by decide +kernel
theorem dX10_glasses_6 : decode cX10_glasses 6 = .ok (.ifCond .ne 5, 3) := by decide +kernel
theorem dX10_glasses_9 : decode cX10_glasses 9 = .ok (.iconst (-1), 1) := by decide +kernel
theorem dX10_glasses_10 : decode cX10_glasses 10 = .ok (.ireturn, 1) := by decide +kernel
theorem dX10_glasses_11 : decode cX10_glasses 11 = .ok (.iconst 4, 1) := by decide +kernel
theorem dX10_glasses_12 : decode cX10_glasses 12 = .ok (.iload_n 1, 1) := by decide +kernel
theorem dX10_glasses_13 : decode cX10_glasses 13 = .ok (.imul, 1) := by decide +kernel
theorem dX10_glasses_14 : decode cX10_glasses 14 = .ok (.iload_n 2, 1) := by decide +kernel
theorem dX10_glasses_15 : decode cX10_glasses 15 = .ok (.iadd, 1) := by decide +kernel
theorem dX10_glasses_16 : decode cX10_glasses 16 = .ok (.istore_n 3, 1) := by decide +kernel
theorem dX10_glasses_17 : decode cX10_glasses 17 = .ok (.aload_n 0, 1) := by decide +kernel
theorem dX10_glasses_18 : decode cX10_glasses 18 = .ok (.getfield 23, 3) := by decide +kernel
theorem dX10_glasses_21 : decode cX10_glasses 21 = .ok (.iconst 0, 1) := by decide +kernel
theorem dX10_glasses_22 : decode cX10_glasses 22 = .ok (.aload_n 0, 1) := by decide +kernel
theorem dX10_glasses_23 : decode cX10_glasses 23 = .ok (.getfield 26, 3) := by decide +kernel
theorem dX10_glasses_26 : decode cX10_glasses 26 = .ok (.iconst 0, 1) := by decide +kernel
theorem dX10_glasses_27 : decode cX10_glasses 27 = .ok (.bipush 11, 2) := by decide +kernel
theorem dX10_glasses_29 : decode cX10_glasses 29 = .ok (.invokestatic 162, 3) := by decide +kernel
theorem dX10_glasses_32 : decode cX10_glasses 32 = .ok (.aload_n 0, 1) := by decide +kernel
theorem dX10_glasses_33 : decode cX10_glasses 33 = .ok (.getfield 26, 3) := by decide +kernel
theorem dX10_glasses_36 : decode cX10_glasses 36 = .ok (.bipush 8, 2) := by decide +kernel
theorem dX10_glasses_38 : decode cX10_glasses 38 = .ok (.dup2, 1) := by decide +kernel
theorem dX10_glasses_39 : decode cX10_glasses 39 = .ok (.iaload, 1) := by decide +kernel
theorem dX10_glasses_40 : decode cX10_glasses 40 = .ok (.iconst 1, 1) := by decide +kernel
theorem dX10_glasses_41 : decode cX10_glasses 41 = .ok (.iload_n 3, 1) := by decide +kernel
theorem dX10_glasses_42 : decode cX10_glasses 42 = .ok (.ishl, 1) := by decide +kernel
theorem dX10_glasses_43 : decode cX10_glasses 43 = .ok (.iconst (-1), 1) := by decide +kernel
theorem dX10_glasses_44 : decode cX10_glasses 44 = .ok (.ixor, 1) := by decide +kernel
theorem dX10_glasses_45 : decode cX10_glasses 45 = .ok (.iand, 1) := by decide +kernel
theorem dX10_glasses_46 : decode cX10_glasses 46 = .ok (.iastore, 1) := by decide +kernel
theorem dX10_glasses_47 : decode cX10_glasses 47 = .ok (.aload_n 0, 1) := by decide +kernel
theorem dX10_glasses_48 : decode cX10_glasses 48 = .ok (.getfield 16, 3) := by decide +kernel
theorem dX10_glasses_51 : decode cX10_glasses 51 = .ok (.iload_n 3, 1) := by decide +kernel
theorem dX10_glasses_52 : decode cX10_glasses 52 = .ok (.iaload, 1) := by decide +kernel
theorem dX10_glasses_53 : decode cX10_glasses 53 = .ok (.istore 4, 2) := by decide +kernel
theorem dX10_glasses_55 : decode cX10_glasses 55 = .ok (.iconst 0, 1) := by decide +kernel
theorem dX10_glasses_56 : decode cX10_glasses 56 = .ok (.istore 5, 2) := by decide +kernel
theorem dX10_glasses_58 : decode cX10_glasses 58 = .ok (.iconst 0, 1) := by decide +kernel
theorem dX10_glasses_59 : decode cX10_glasses 59 = .ok (.istore 6, 2) := by decide +kernel
theorem dX10_glasses_61 : decode cX10_glasses 61 = .ok (.iload 6, 2) := by decide +kernel
theorem dX10_glasses_63 : decode cX10_glasses 63 = .ok (.bipush 8, 2) := by decide +kernel
theorem dX10_glasses_65 : decode cX10_glasses 65 = .ok (.if_icmp .ge 41, 3) := by decide +kernel
theorem dX10_glasses_68 : decode cX10_glasses 68 = .ok (.aload_n 0, 1) := by decide +kernel
theorem dX10_glasses_69 : decode cX10_glasses 69 = .ok (.getfield 16, 3) := by decide +kernel
theorem dX10_glasses_72 : decode cX10_glasses 72 = .ok (.iload_n 3, 1) := by decide +kernel
theorem dX10_glasses_73 : decode cX10_glasses 73 = .ok (.iload 6, 2) := by decide +kernel
theorem dX10_glasses_75 : decode cX10_glasses 75 = .ok (.iastore, 1) := by decide +kernel
theorem dX10_glasses_76 : decode cX10_glasses 76 = .ok (.iload 5, 2) := by decide +kernel
theorem dX10_glasses_78 : decode cX10_glasses 78 = .ok (.aload_n 0, 1) := by decide +kernel
theorem dX10_glasses_79 : decode cX10_glasses 79 = .ok (.aload_n 0, 1) := by decide +kernel
theorem dX10_glasses_80 : decode cX10_glasses 80 = .ok (.getfield 26, 3) := by decide +kernel
theorem dX10_glasses_83 : decode cX10_glasses 83 = .ok (.invokevirtual 275, 3) := by decide +kernel
theorem dX10_glasses_86 : decode cX10_glasses 86 = .ok (.ifCond .eq 10, 3) := by decide +kernel
theorem dX10_glasses_89 : decode cX10_glasses 89 = .ok (.iconst 1, 1) := by decide +kernel
theorem dX10_glasses_90 : decode cX10_glasses 90 = .ok (.iload 6, 2) := by decide +kernel
theorem dX10_glasses_92 : decode cX10_glasses 92 = .ok (.ishl, 1) := by decide +kernel
theorem dX10_glasses_93 : decode cX10_glasses 93 = .ok (.goto 4, 3) := by decide +kernel
theorem dX10_glasses_96 : decode cX10_glasses 96 = .ok (.iconst 0, 1) := by decide +kernel
theorem dX10_glasses_97 : decode cX10_glasses 97 = .ok (.ior, 1) := by decide +kernel
theorem dX10_glasses_98 : decode cX10_glasses 98 = .ok (.istore 5, 2) := by decide +kernel
theorem dX10_glasses_100 : decode cX10_glasses 100 = .ok (.iinc 6 1, 3) := by decide +kernel
theorem dX10_glasses_103 : decode cX10_glasses 103 = .ok (.goto (-42), 3) := by decide +kernel
theorem dX10_glasses_106 : decode cX10_glasses 106 = .ok (.aload_n 0, 1) := by decide +kernel
theorem dX10_glasses_107 : decode cX10_glasses 107 = .ok (.getfield 16, 3) := by decide +kernel
theorem dX10_glasses_110 : decode cX10_glasses 110 = .ok (.iload_n 3, 1) := by decide +kernel
theorem dX10_glasses_111 : decode cX10_glasses 111 = .ok (.iload 4, 2) := by decide +kernel
theorem dX10_glasses_113 : decode cX10_glasses 113 = .ok (.iastore, 1) := by decide +kernel
theorem dX10_glasses_114 : decode cX10_glasses 114 = .ok (.iload 5, 2) := by decide +kernel
theorem dX10_glasses_116 : decode cX10_glasses 116 = .ok (.ireturn, 1) := by decide +kernel
theorem dX10_look_0 : decode cX10_look 0 = .ok (.aload_n 0, 1) := by decide +kernel
theorem dX10_look_1 : decode cX10_look 1 = .ok (.invokevirtual 279, 3) := by decide +kernel
theorem dX10_look_4 : decode cX10_look 4 = .ok (.istore_n 1, 1) := by decide +kernel
theorem dX10_look_5 : decode cX10_look 5 = .ok (.bipush (-9), 2) := by decide +kernel
theorem dX10_look_7 : decode cX10_look 7 = .ok (.istore_n 2, 1) := by decide +kernel
theorem dX10_look_8 : decode cX10_look 8 = .ok (.ldc 236, 2) := by decide +kernel
theorem dX10_look_10 : decode cX10_look 10 = .ok (.istore_n 3, 1) := by decide +kernel
theorem dX10_look_11 : decode cX10_look 11 = .ok (.iconst 0, 1) := by decide +kernel
theorem dX10_look_12 : decode cX10_look 12 = .ok (.istore 4, 2) := by decide +kernel
theorem dX10_look_14 : decode cX10_look 14 = .ok (.iload 4, 2) := by decide +kernel
theorem dX10_look_16 : decode cX10_look 16 = .ok (.sipush 672, 3) := by decide +kernel
theorem dX10_look_19 : decode cX10_look 19 = .ok (.if_icmp .ge 165, 3) := by decide +kernel
theorem dX10_look_22 : decode cX10_look 22 = .ok (.iload_n 1, 1) := by decide +kernel
theorem dX10_look_23 : decode cX10_look 23 = .ok (.ifCond .eq 161, 3) := by decide +kernel
theorem dX10_look_26 : decode cX10_look 26 = .ok (.iconst 0, 1) := by decide +kernel
theorem dX10_look_27 : decode cX10_look 27 = .ok (.istore 5, 2) := by decide +kernel
theorem dX10_look_29 : decode cX10_look 29 = .ok (.iload 5, 2) := by decide +kernel
theorem dX10_look_31 : decode cX10_look 31 = .ok (.bipush 8, 2) := by decide +kernel
theorem dX10_look_33 : decode cX10_look 33 = .ok (.if_icmp .ge 17, 3) := by decide +kernel
theorem dX10_look_36 : decode cX10_look 36 = .ok (.aload_n 0, 1) := by decide +kernel
theorem dX10_look_37 : decode cX10_look 37 = .ok (.getfield 66, 3) := by decide +kernel
theorem dX10_look_40 : decode cX10_look 40 = .ok (.iload 5, 2) := by decide +kernel
theorem dX10_look_42 : decode cX10_look 42 = .ok (.iconst 0, 1) := by decide +kernel
theorem dX10_look_43 : decode cX10_look 43 = .ok (.iastore, 1) := by decide +kernel
theorem dX10_look_44 : decode cX10_look 44 = .ok (.iinc 5 1, 3) := by decide +kernel
theorem dX10_look_47 : decode cX10_look 47 = .ok (.goto (-18), 3) := by decide +kernel
theorem dX10_look_50 : decode cX10_look 50 = .ok (.iconst 0, 1) := by decide +kernel
theorem dX10_look_51 : decode cX10_look 51 = .ok (.istore 5, 2) := by decide +kernel
theorem dX10_look_53 : decode cX10_look 53 = .ok (.iconst 0, 1) := by decide +kernel
theorem dX10_look_54 : decode cX10_look 54 = .ok (.istore 6, 2) := by decide +kernel
theorem dX10_look_56 : decode cX10_look 56 = .ok (.iload 6, 2) := by decide +kernel
theorem dX10_look_58 : decode cX10_look 58 = .ok (.bipush 21, 2) := by decide +kernel
theorem dX10_look_60 : decode cX10_look 60 = .ok (.if_icmp .ge 92, 3) := by decide +kernel
theorem dX10_look_63 : decode cX10_look 63 = .ok (.iload_n 1, 1) := by decide +kernel
theorem dX10_look_64 : decode cX10_look 64 = .ok (.iload 6, 2) := by decide +kernel
theorem dX10_look_66 : decode cX10_look 66 = .ok (.invokestatic 172, 3) := by decide +kernel
theorem dX10_look_69 : decode cX10_look 69 = .ok (.ifCond .eq 77, 3) := by decide +kernel
theorem dX10_look_72 : decode cX10_look 72 = .ok (.aload_n 0, 1) := by decide +kernel
theorem dX10_look_73 : decode cX10_look 73 = .ok (.iload 6, 2) := by decide +kernel
theorem dX10_look_75 : decode cX10_look 75 = .ok (.invokevirtual 272, 3) := by decide +kernel
theorem dX10_look_78 : decode cX10_look 78 = .ok (.aload_n 0, 1) := by decide +kernel
theorem dX10_look_79 : decode cX10_look 79 = .ok (.aload_n 0, 1) := by decide +kernel
theorem dX10_look_80 : decode cX10_look 80 = .ok (.getfield 26, 3) := by decide +kernel
theorem dX10_look_83 : decode cX10_look 83 = .ok (.iload 4, 2) := by decide +kernel
theorem dX10_look_85 : decode cX10_look 85 = .ok (.bipush 8, 2) := by decide +kernel
theorem dX10_look_87 : decode cX10_look 87 = .ok (.idiv, 1) := by decide +kernel
theorem dX10_look_88 : decode cX10_look 88 = .ok (.bipush 7, 2) := by decide +kernel
theorem dX10_look_90 : decode cX10_look 90 = .ok (.idiv, 1) := by decide +kernel
theorem dX10_look_91 : decode cX10_look 91 = .ok (.iload 4, 2) := by decide +kernel
theorem dX10_look_93 : decode cX10_look 93 = .ok (.bipush 8, 2) := by decide +kernel
theorem dX10_look_95 : decode cX10_look 95 = .ok (.idiv, 1) := by decide +kernel
theorem dX10_look_96 : decode cX10_look 96 = .ok (.bipush 7, 2) := by decide +kernel
theorem dX10_look_98 : decode cX10_look 98 = .ok (.irem, 1) := by decide +kernel
theorem dX10_look_99 : decode cX10_look 99 = .ok (.iload 4, 2) := by decide +kernel
theorem dX10_look_101 : decode cX10_look 101 = .ok (.bipush 8, 2) := by decide +kernel
theorem dX10_look_103 : decode cX10_look 103 = .ok (.irem, 1) := by decide +kernel
theorem dX10_look_104 : decode cX10_look 104 = .ok (.invokevirtual 193, 3) := by decide +kernel
theorem dX10_look_107 : decode cX10_look 107 = .ok (.istore 7, 2) := by decide +kernel
theorem dX10_look_109 : decode cX10_look 109 = .ok (.aload_n 0, 1) := by decide +kernel
theorem dX10_look_110 : decode cX10_look 110 = .ok (.getfield 66, 3) := by decide +kernel
theorem dX10_look_113 : decode cX10_look 113 = .ok (.iload 7, 2) := by decide +kernel
theorem dX10_look_115 : decode cX10_look 115 = .ok (.dup2, 1) := by decide +kernel
theorem dX10_look_116 : decode cX10_look 116 = .ok (.iaload, 1) := by decide +kernel
theorem dX10_look_117 : decode cX10_look 117 = .ok (.iconst 1, 1) := by decide +kernel
theorem dX10_look_118 : decode cX10_look 118 = .ok (.iadd, 1) := by decide +kernel
theorem dX10_look_119 : decode cX10_look 119 = .ok (.iastore, 1) := by decide +kernel
theorem dX10_look_120 : decode cX10_look 120 = .ok (.aload_n 0, 1) := by decide +kernel
theorem dX10_look_121 : decode cX10_look 121 = .ok (.getfield 66, 3) := by decide +kernel
theorem dX10_look_124 : decode cX10_look 124 = .ok (.iload 7, 2) := by decide +kernel
theorem dX10_look_126 : decode cX10_look 126 = .ok (.iaload, 1) := by decide +kernel
theorem dX10_look_127 : decode cX10_look 127 = .ok (.iload 5, 2) := by decide +kernel
theorem dX10_look_129 : decode cX10_look 129 = .ok (.if_icmp .le 13, 3) := by decide +kernel
theorem dX10_look_132 : decode cX10_look 132 = .ok (.aload_n 0, 1) := by decide +kernel
theorem dX10_look_133 : decode cX10_look 133 = .ok (.getfield 66, 3) := by decide +kernel
theorem dX10_look_136 : decode cX10_look 136 = .ok (.iload 7, 2) := by decide +kernel
theorem dX10_look_138 : decode cX10_look 138 = .ok (.iaload, 1) := by decide +kernel
theorem dX10_look_139 : decode cX10_look 139 = .ok (.goto 5, 3) := by decide +kernel
theorem dX10_look_142 : decode cX10_look 142 = .ok (.iload 5, 2) := by decide +kernel
theorem dX10_look_144 : decode cX10_look 144 = .ok (.istore 5, 2) := by decide +kernel
theorem dX10_look_146 : decode cX10_look 146 = .ok (.iinc 6 1, 3) := by decide +kernel
theorem dX10_look_149 : decode cX10_look 149 = .ok (.goto (-93), 3) := by decide +kernel
theorem dX10_look_152 : decode cX10_look 152 = .ok (.iload 5, 2) := by decide +kernel
theorem dX10_look_154 : decode cX10_look 154 = .ok (.iload_n 3, 1) := by decide +kernel
theorem dX10_look_155 : decode cX10_look 155 = .ok (.if_icmp .ge 8, 3) := by decide +kernel
theorem dX10_look_158 : decode cX10_look 158 = .ok (.iload 4, 2) := by decide +kernel
theorem dX10_look_160 : decode cX10_look 160 = .ok (.goto 4, 3) := by decide +kernel
theorem dX10_look_163 : decode cX10_look 163 = .ok (.iload_n 2, 1) := by decide +kernel
theorem dX10_look_164 : decode cX10_look 164 = .ok (.istore_n 2, 1) := by decide +kernel
theorem dX10_look_165 : decode cX10_look 165 = .ok (.iload 5, 2) := by decide +kernel
theorem dX10_look_167 : decode cX10_look 167 = .ok (.iload_n 3, 1) := by decide +kernel
theorem dX10_look_168 : decode cX10_look 168 = .ok (.if_icmp .ge 8, 3) := by decide +kernel
theorem dX10_look_171 : decode cX10_look 171 = .ok (.iload 5, 2) := by decide +kernel
theorem dX10_look_173 : decode cX10_look 173 = .ok (.goto 4, 3) := by decide +kernel
theorem dX10_look_176 : decode cX10_look 176 = .ok (.iload_n 3, 1) := by decide +kernel
theorem dX10_look_177 : decode cX10_look 177 = .ok (.istore_n 3, 1) := by decide +kernel
theorem dX10_look_178 : decode cX10_look 178 = .ok (.iinc 4 1, 3) := by decide +kernel
theorem dX10_look_181 : decode cX10_look 181 = .ok (.goto (-167), 3) := by decide +kernel
theorem dX10_look_184 : decode cX10_look 184 = .ok (.iload_n 2, 1) := by decide +kernel
theorem dX10_look_185 : decode cX10_look 185 = .ok (.ireturn, 1) := by decide +kernel
theorem dX10_mark_0 : decode cX10_mark 0 = .ok (.iload_n 1, 1) := by decide +kernel
theorem dX10_mark_1 : decode cX10_mark 1 = .ok (.i2l, 1) := by decide +kernel
theorem dX10_mark_2 : decode cX10_mark 2 = .ok (.lconst 0, 1) := by decide +kernel
theorem dX10_mark_3 : decode cX10_mark 3 = .ok (.ldc2_w 282, 3) := by decide +kernel
theorem dX10_mark_6 : decode cX10_mark 6 = .ok (.invokestatic 81, 3) := by decide +kernel
theorem dX10_mark_9 : decode cX10_mark 9 = .ok (.ifCond .eq 12, 3) := by decide +kernel
theorem dX10_mark_12 : decode cX10_mark 12 = .ok (.aload_n 0, 1) := by decide +kernel
theorem dX10_mark_13 : decode cX10_mark 13 = .ok (.iload_n 2, 1) := by decide +kernel
theorem dX10_mark_14 : decode cX10_mark 14 = .ok (.iload_n 3, 1) := by decide +kernel
theorem dX10_mark_15 : decode cX10_mark 15 = .ok (.invokevirtual 183, 3) := by decide +kernel
theorem dX10_mark_18 : decode cX10_mark 18 = .ok (.ifCond .ne 7, 3) := by decide +kernel
theorem dX10_mark_21 : decode cX10_mark 21 = .ok (.ldc_w 284, 3) := by decide +kernel
theorem dX10_mark_24 : decode cX10_mark 24 = .ok (.ireturn, 1) := by decide +kernel
theorem dX10_mark_25 : decode cX10_mark 25 = .ok (.iconst 4, 1) := by decide +kernel
theorem dX10_mark_26 : decode cX10_mark 26 = .ok (.iload_n 2, 1) := by decide +kernel
theorem dX10_mark_27 : decode cX10_mark 27 = .ok (.imul, 1) := by decide +kernel
theorem dX10_mark_28 : decode cX10_mark 28 = .ok (.iload_n 3, 1) := by decide +kernel
theorem dX10_mark_29 : decode cX10_mark 29 = .ok (.iadd, 1) := by decide +kernel
theorem dX10_mark_30 : decode cX10_mark 30 = .ok (.istore 4, 2) := by decide +kernel
theorem dX10_mark_32 : decode cX10_mark 32 = .ok (.aload_n 0, 1) := by decide +kernel
theorem dX10_mark_33 : decode cX10_mark 33 = .ok (.aload_n 0, 1) := by decide +kernel
theorem dX10_mark_34 : decode cX10_mark 34 = .ok (.getfield 23, 3) := by decide +kernel
theorem dX10_mark_37 : decode cX10_mark 37 = .ok (.iload 4, 2) := by decide +kernel
theorem dX10_mark_39 : decode cX10_mark 39 = .ok (.invokevirtual 190, 3) := by decide +kernel
theorem dX10_mark_42 : decode cX10_mark 42 = .ok (.istore 5, 2) := by decide +kernel
theorem dX10_mark_44 : decode cX10_mark 44 = .ok (.iload 5, 2) := by decide +kernel
theorem dX10_mark_46 : decode cX10_mark 46 = .ok (.aload_n 0, 1) := by decide +kernel
theorem dX10_mark_47 : decode cX10_mark 47 = .ok (.aload_n 0, 1) := by decide +kernel
theorem dX10_mark_48 : decode cX10_mark 48 = .ok (.getfield 23, 3) := by decide +kernel
theorem dX10_mark_51 : decode cX10_mark 51 = .ok (.iload 4, 2) := by decide +kernel
theorem dX10_mark_53 : decode cX10_mark 53 = .ok (.invokevirtual 175, 3) := by decide +kernel
theorem dX10_mark_56 : decode cX10_mark 56 = .ok (.invokestatic 201, 3) := by decide +kernel
theorem dX10_mark_59 : decode cX10_mark 59 = .ok (.iadd, 1) := by decide +kernel
theorem dX10_mark_60 : decode cX10_mark 60 = .ok (.istore 6, 2) := by decide +kernel
theorem dX10_mark_62 : decode cX10_mark 62 = .ok (.iload_n 1, 1) := by decide +kernel
theorem dX10_mark_63 : decode cX10_mark 63 = .ok (.tableswitch 115 0 4 #[33, 46, 61, 78, 95], 33) := by decide +kernel
theorem dX10_mark_96 : decode cX10_mark 96 = .ok (.aload_n 0, 1) := by decide +kernel
theorem dX10_mark_97 : decode cX10_mark 97 = .ok (.dup, 1) := by decide +kernel
theorem dX10_mark_98 : decode cX10_mark 98 = .ok (.getfield 285, 3) := by decide +kernel
theorem dX10_mark_101 : decode cX10_mark 101 = .ok (.lconst 1, 1) := by decide +kernel
theorem dX10_mark_102 : decode cX10_mark 102 = .ok (.ladd, 1) := by decide +kernel
theorem dX10_mark_103 : decode cX10_mark 103 = .ok (.putfield 285, 3) := by decide +kernel
theorem dX10_mark_106 : decode cX10_mark 106 = .ok (.iload 5, 2) := by decide +kernel
theorem dX10_mark_108 : decode cX10_mark 108 = .ok (.ireturn, 1) := by decide +kernel
theorem dX10_mark_109 : decode cX10_mark 109 = .ok (.aload_n 0, 1) := by decide +kernel
theorem dX10_mark_110 : decode cX10_mark 110 = .ok (.dup, 1) := by decide +kernel
theorem dX10_mark_111 : decode cX10_mark 111 = .ok (.getfield 285, 3) := by decide +kernel
theorem dX10_mark_114 : decode cX10_mark 114 = .ok (.ldc2_w 166, 3) := by decide +kernel
theorem dX10_mark_117 : decode cX10_mark 117 = .ok (.ladd, 1) := by decide +kernel
theorem dX10_mark_118 : decode cX10_mark 118 = .ok (.putfield 285, 3) := by decide +kernel
theorem dX10_mark_121 : decode cX10_mark 121 = .ok (.iload 6, 2) := by decide +kernel
theorem dX10_mark_123 : decode cX10_mark 123 = .ok (.ireturn, 1) := by decide +kernel
theorem dX10_mark_124 : decode cX10_mark 124 = .ok (.aload_n 0, 1) := by decide +kernel
theorem dX10_mark_125 : decode cX10_mark 125 = .ok (.dup, 1) := by decide +kernel
theorem dX10_mark_126 : decode cX10_mark 126 = .ok (.getfield 285, 3) := by decide +kernel
theorem dX10_mark_129 : decode cX10_mark 129 = .ok (.ldc2_w 289, 3) := by decide +kernel
theorem dX10_mark_132 : decode cX10_mark 132 = .ok (.ladd, 1) := by decide +kernel
theorem dX10_mark_133 : decode cX10_mark 133 = .ok (.putfield 285, 3) := by decide +kernel
theorem dX10_mark_136 : decode cX10_mark 136 = .ok (.iload 5, 2) := by decide +kernel
theorem dX10_mark_138 : decode cX10_mark 138 = .ok (.iload_n 3, 1) := by decide +kernel
theorem dX10_mark_139 : decode cX10_mark 139 = .ok (.isub, 1) := by decide +kernel
theorem dX10_mark_140 : decode cX10_mark 140 = .ok (.ireturn, 1) := by decide +kernel
theorem dX10_mark_141 : decode cX10_mark 141 = .ok (.aload_n 0, 1) := by decide +kernel
theorem dX10_mark_142 : decode cX10_mark 142 = .ok (.dup, 1) := by decide +kernel
theorem dX10_mark_143 : decode cX10_mark 143 = .ok (.getfield 285, 3) := by decide +kernel
theorem dX10_mark_146 : decode cX10_mark 146 = .ok (.ldc2_w 291, 3) := by decide +kernel
theorem dX10_mark_149 : decode cX10_mark 149 = .ok (.ladd, 1) := by decide +kernel
theorem dX10_mark_150 : decode cX10_mark 150 = .ok (.putfield 285, 3) := by decide +kernel
theorem dX10_mark_153 : decode cX10_mark 153 = .ok (.iconst 2, 1) := by decide +kernel
theorem dX10_mark_154 : decode cX10_mark 154 = .ok (.iload 6, 2) := by decide +kernel
theorem dX10_mark_156 : decode cX10_mark 156 = .ok (.imul, 1) := by decide +kernel
theorem dX10_mark_157 : decode cX10_mark 157 = .ok (.ireturn, 1) := by decide +kernel
theorem dX10_mark_158 : decode cX10_mark 158 = .ok (.aload_n 0, 1) := by decide +kernel
theorem dX10_mark_159 : decode cX10_mark 159 = .ok (.dup, 1) := by decide +kernel
theorem dX10_mark_160 : decode cX10_mark 160 = .ok (.getfield 285, 3) := by decide +kernel
theorem dX10_mark_163 : decode cX10_mark 163 = .ok (.ldc2_w 293, 3) := by decide +kernel
theorem dX10_mark_166 : decode cX10_mark 166 = .ok (.ladd, 1) := by decide +kernel
theorem dX10_mark_167 : decode cX10_mark 167 = .ok (.putfield 285, 3) := by decide +kernel
theorem dX10_mark_170 : decode cX10_mark 170 = .ok (.iload 5, 2) := by decide +kernel
theorem dX10_mark_172 : decode cX10_mark 172 = .ok (.iload_n 3, 1) := by decide +kernel
theorem dX10_mark_173 : decode cX10_mark 173 = .ok (.isub, 1) := by decide +kernel
theorem dX10_mark_174 : decode cX10_mark 174 = .ok (.iload 4, 2) := by decide +kernel
theorem dX10_mark_176 : decode cX10_mark 176 = .ok (.iadd, 1) := by decide +kernel
theorem dX10_mark_177 : decode cX10_mark 177 = .ok (.ireturn, 1) := by decide +kernel
theorem dX10_mark_178 : decode cX10_mark 178 = .ok (.aload_n 0, 1) := by decide +kernel
theorem dX10_mark_179 : decode cX10_mark 179 = .ok (.dup, 1) := by decide +kernel
theorem dX10_mark_180 : decode cX10_mark 180 = .ok (.getfield 285, 3) := by decide +kernel
theorem dX10_mark_183 : decode cX10_mark 183 = .ok (.ldc2_w 295, 3) := by decide +kernel
theorem dX10_mark_186 : decode cX10_mark 186 = .ok (.ladd, 1) := by decide +kernel
theorem dX10_mark_187 : decode cX10_mark 187 = .ok (.putfield 285, 3) := by decide +kernel
theorem dX10_mark_190 : decode cX10_mark 190 = .ok (.iload 5, 2) := by decide +kernel
theorem dX10_mark_192 : decode cX10_mark 192 = .ok (.aload_n 0, 1) := by decide +kernel
theorem dX10_mark_193 : decode cX10_mark 193 = .ok (.getfield 23, 3) := by decide +kernel
theorem dX10_mark_196 : decode cX10_mark 196 = .ok (.bipush 9, 2) := by decide +kernel
theorem dX10_mark_198 : decode cX10_mark 198 = .ok (.iaload, 1) := by decide +kernel
theorem dX10_mark_199 : decode cX10_mark 199 = .ok (.iadd, 1) := by decide +kernel
theorem dX10_mark_200 : decode cX10_mark 200 = .ok (.ireturn, 1) := by decide +kernel
theorem dX10_keep_0 : decode cX10_keep 0 = .ok (.iload_n 1, 1) := by decide +kernel
theorem dX10_keep_1 : decode cX10_keep 1 = .ok (.i2l, 1) := by decide +kernel
theorem dX10_keep_2 : decode cX10_keep 2 = .ok (.lconst 0, 1) := by decide +kernel
theorem dX10_keep_3 : decode cX10_keep 3 = .ok (.lconst 1, 1) := by decide +kernel
theorem dX10_keep_4 : decode cX10_keep 4 = .ok (.invokestatic 81, 3) := by decide +kernel
theorem dX10_keep_7 : decode cX10_keep 7 = .ok (.ifCond .ne 5, 3) := by decide +kernel
theorem dX10_keep_10 : decode cX10_keep 10 = .ok (.iconst (-1), 1) := by decide +kernel
theorem dX10_keep_11 : decode cX10_keep 11 = .ok (.ireturn, 1) := by decide +kernel
theorem dX10_keep_12 : decode cX10_keep 12 = .ok (.aload_n 0, 1) := by decide +kernel
theorem dX10_keep_13 : decode cX10_keep 13 = .ok (.getfield 23, 3) := by decide +kernel
theorem dX10_keep_16 : decode cX10_keep 16 = .ok (.iconst 0, 1) := by decide +kernel
theorem dX10_keep_17 : decode cX10_keep 17 = .ok (.aload_n 0, 1) := by decide +kernel
theorem dX10_keep_18 : decode cX10_keep 18 = .ok (.getfield 32, 3) := by decide +kernel
theorem dX10_keep_21 : decode cX10_keep 21 = .ok (.bipush 11, 2) := by decide +kernel
theorem dX10_keep_23 : decode cX10_keep 23 = .ok (.iload_n 1, 1) := by decide +kernel
theorem dX10_keep_24 : decode cX10_keep 24 = .ok (.imul, 1) := by decide +kernel
theorem dX10_keep_25 : decode cX10_keep 25 = .ok (.bipush 11, 2) := by decide +kernel
theorem dX10_keep_27 : decode cX10_keep 27 = .ok (.invokestatic 162, 3) := by decide +kernel
theorem dX10_keep_30 : decode cX10_keep 30 = .ok (.aload_n 0, 1) := by decide +kernel
theorem dX10_keep_31 : decode cX10_keep 31 = .ok (.getfield 29, 3) := by decide +kernel
theorem dX10_keep_34 : decode cX10_keep 34 = .ok (.iconst 0, 1) := by decide +kernel
theorem dX10_keep_35 : decode cX10_keep 35 = .ok (.aload_n 0, 1) := by decide +kernel
theorem dX10_keep_36 : decode cX10_keep 36 = .ok (.getfield 35, 3) := by decide +kernel
theorem dX10_keep_39 : decode cX10_keep 39 = .ok (.bipush 110, 2) := by decide +kernel
theorem dX10_keep_41 : decode cX10_keep 41 = .ok (.iload_n 1, 1) := by decide +kernel
theorem dX10_keep_42 : decode cX10_keep 42 = .ok (.imul, 1) := by decide +kernel
theorem dX10_keep_43 : decode cX10_keep 43 = .ok (.bipush 110, 2) := by decide +kernel
theorem dX10_keep_45 : decode cX10_keep 45 = .ok (.invokestatic 162, 3) := by decide +kernel
theorem dX10_keep_48 : decode cX10_keep 48 = .ok (.aload_n 0, 1) := by decide +kernel
theorem dX10_keep_49 : decode cX10_keep 49 = .ok (.getfield 38, 3) := by decide +kernel
theorem dX10_keep_52 : decode cX10_keep 52 = .ok (.iload_n 1, 1) := by decide +kernel
theorem dX10_keep_53 : decode cX10_keep 53 = .ok (.aload_n 0, 1) := by decide +kernel
theorem dX10_keep_54 : decode cX10_keep 54 = .ok (.getfield 73, 3) := by decide +kernel
theorem dX10_keep_57 : decode cX10_keep 57 = .ok (.iastore, 1) := by decide +kernel
theorem dX10_keep_58 : decode cX10_keep 58 = .ok (.aload_n 0, 1) := by decide +kernel
theorem dX10_keep_59 : decode cX10_keep 59 = .ok (.getfield 41, 3) := by decide +kernel
theorem dX10_keep_62 : decode cX10_keep 62 = .ok (.iload_n 1, 1) := by decide +kernel
theorem dX10_keep_63 : decode cX10_keep 63 = .ok (.iconst 1, 1) := by decide +kernel
theorem dX10_keep_64 : decode cX10_keep 64 = .ok (.bastore, 1) := by decide +kernel
theorem dX10_keep_65 : decode cX10_keep 65 = .ok (.aload_n 0, 1) := by decide +kernel
theorem dX10_keep_66 : decode cX10_keep 66 = .ok (.getfield 23, 3) := by decide +kernel
theorem dX10_keep_69 : decode cX10_keep 69 = .ok (.bipush 8, 2) := by decide +kernel
theorem dX10_keep_71 : decode cX10_keep 71 = .ok (.iaload, 1) := by decide +kernel
theorem dX10_keep_72 : decode cX10_keep 72 = .ok (.invokestatic 201, 3) := by decide +kernel
theorem dX10_keep_75 : decode cX10_keep 75 = .ok (.ireturn, 1) := by decide +kernel
theorem dX10_back_0 : decode cX10_back 0 = .ok (.iload_n 1, 1) := by decide +kernel
theorem dX10_back_1 : decode cX10_back 1 = .ok (.i2l, 1) := by decide +kernel
theorem dX10_back_2 : decode cX10_back 2 = .ok (.lconst 0, 1) := by decide +kernel
theorem dX10_back_3 : decode cX10_back 3 = .ok (.lconst 1, 1) := by decide +kernel
theorem dX10_back_4 : decode cX10_back 4 = .ok (.invokestatic 81, 3) := by decide +kernel
theorem dX10_back_7 : decode cX10_back 7 = .ok (.ifCond .ne 5, 3) := by decide +kernel
theorem dX10_back_10 : decode cX10_back 10 = .ok (.iconst (-1), 1) := by decide +kernel
theorem dX10_back_11 : decode cX10_back 11 = .ok (.ireturn, 1) := by decide +kernel
theorem dX10_back_12 : decode cX10_back 12 = .ok (.aload_n 0, 1) := by decide +kernel
theorem dX10_back_13 : decode cX10_back 13 = .ok (.getfield 41, 3) := by decide +kernel
theorem dX10_back_16 : decode cX10_back 16 = .ok (.iload_n 1, 1) := by decide +kernel
theorem dX10_back_17 : decode cX10_back 17 = .ok (.baload, 1) := by decide +kernel
theorem dX10_back_18 : decode cX10_back 18 = .ok (.ifCond .ne 6, 3) := by decide +kernel
theorem dX10_back_21 : decode cX10_back 21 = .ok (.bipush (-2), 2) := by decide +kernel
theorem dX10_back_23 : decode cX10_back 23 = .ok (.ireturn, 1) := by decide +kernel
theorem dX10_back_24 : decode cX10_back 24 = .ok (.aload_n 0, 1) := by decide +kernel
theorem dX10_back_25 : decode cX10_back 25 = .ok (.getfield 32, 3) := by decide +kernel
theorem dX10_back_28 : decode cX10_back 28 = .ok (.bipush 11, 2) := by decide +kernel
theorem dX10_back_30 : decode cX10_back 30 = .ok (.iload_n 1, 1) := by decide +kernel
theorem dX10_back_31 : decode cX10_back 31 = .ok (.imul, 1) := by decide +kernel
theorem dX10_back_32 : decode cX10_back 32 = .ok (.aload_n 0, 1) := by decide +kernel
theorem dX10_back_33 : decode cX10_back 33 = .ok (.getfield 23, 3) := by decide +kernel
theorem dX10_back_36 : decode cX10_back 36 = .ok (.iconst 0, 1) := by decide +kernel
theorem dX10_back_37 : decode cX10_back 37 = .ok (.bipush 11, 2) := by decide +kernel
theorem dX10_back_39 : decode cX10_back 39 = .ok (.invokestatic 162, 3) := by decide +kernel
theorem dX10_back_42 : decode cX10_back 42 = .ok (.aload_n 0, 1) := by decide +kernel
theorem dX10_back_43 : decode cX10_back 43 = .ok (.getfield 35, 3) := by decide +kernel
theorem dX10_back_46 : decode cX10_back 46 = .ok (.bipush 110, 2) := by decide +kernel
theorem dX10_back_48 : decode cX10_back 48 = .ok (.iload_n 1, 1) := by decide +kernel
theorem dX10_back_49 : decode cX10_back 49 = .ok (.imul, 1) := by decide +kernel
theorem dX10_back_50 : decode cX10_back 50 = .ok (.aload_n 0, 1) := by decide +kernel
theorem dX10_back_51 : decode cX10_back 51 = .ok (.getfield 29, 3) := by decide +kernel
theorem dX10_back_54 : decode cX10_back 54 = .ok (.iconst 0, 1) := by decide +kernel
theorem dX10_back_55 : decode cX10_back 55 = .ok (.bipush 110, 2) := by decide +kernel
theorem dX10_back_57 : decode cX10_back 57 = .ok (.invokestatic 162, 3) := by decide +kernel
theorem dX10_back_60 : decode cX10_back 60 = .ok (.aload_n 0, 1) := by decide +kernel
theorem dX10_back_61 : decode cX10_back 61 = .ok (.aload_n 0, 1) := by decide +kernel
theorem dX10_back_62 : decode cX10_back 62 = .ok (.getfield 38, 3) := by decide +kernel
theorem dX10_back_65 : decode cX10_back 65 = .ok (.iload_n 1, 1) := by decide +kernel
theorem dX10_back_66 : decode cX10_back 66 = .ok (.iaload, 1) := by decide +kernel
theorem dX10_back_67 : decode cX10_back 67 = .ok (.putfield 73, 3) := by decide +kernel
theorem dX10_back_70 : decode cX10_back 70 = .ok (.aload_n 0, 1) := by decide +kernel
theorem dX10_back_71 : decode cX10_back 71 = .ok (.getfield 23, 3) := by decide +kernel
theorem dX10_back_74 : decode cX10_back 74 = .ok (.bipush 8, 2) := by decide +kernel
theorem dX10_back_76 : decode cX10_back 76 = .ok (.iaload, 1) := by decide +kernel
theorem dX10_back_77 : decode cX10_back 77 = .ok (.invokestatic 201, 3) := by decide +kernel
theorem dX10_back_80 : decode cX10_back 80 = .ok (.ireturn, 1) := by decide +kernel
theorem dX10_count_0 : decode cX10_count 0 = .ok (.iload_n 1, 1) := by decide +kernel
theorem dX10_count_1 : decode cX10_count 1 = .ok (.tableswitch 69 0 5 #[39, 44, 49, 54, 59, 64], 39) := by decide +kernel
theorem dX10_count_40 : decode cX10_count 40 = .ok (.aload_n 0, 1) := by decide +kernel
theorem dX10_count_41 : decode cX10_count 41 = .ok (.getfield 7, 3) := by decide +kernel
theorem dX10_count_44 : decode cX10_count 44 = .ok (.ireturn, 1) := by decide +kernel
theorem dX10_count_45 : decode cX10_count 45 = .ok (.aload_n 0, 1) := by decide +kernel
theorem dX10_count_46 : decode cX10_count 46 = .ok (.getfield 13, 3) := by decide +kernel
theorem dX10_count_49 : decode cX10_count 49 = .ok (.ireturn, 1) := by decide +kernel
theorem dX10_count_50 : decode cX10_count 50 = .ok (.aload_n 0, 1) := by decide +kernel
theorem dX10_count_51 : decode cX10_count 51 = .ok (.getfield 159, 3) := by decide +kernel
theorem dX10_count_54 : decode cX10_count 54 = .ok (.ireturn, 1) := by decide +kernel
theorem dX10_count_55 : decode cX10_count 55 = .ok (.aload_n 0, 1) := by decide +kernel
theorem dX10_count_56 : decode cX10_count 56 = .ok (.getfield 76, 3) := by decide +kernel
theorem dX10_count_59 : decode cX10_count 59 = .ok (.ireturn, 1) := by decide +kernel
theorem dX10_count_60 : decode cX10_count 60 = .ok (.aload_n 0, 1) := by decide +kernel
theorem dX10_count_61 : decode cX10_count 61 = .ok (.getfield 73, 3) := by decide +kernel
theorem dX10_count_64 : decode cX10_count 64 = .ok (.ireturn, 1) := by decide +kernel
theorem dX10_count_65 : decode cX10_count 65 = .ok (.aload_n 0, 1) := by decide +kernel
theorem dX10_count_66 : decode cX10_count 66 = .ok (.getfield 85, 3) := by decide +kernel
theorem dX10_count_69 : decode cX10_count 69 = .ok (.ireturn, 1) := by decide +kernel
theorem dX10_count_70 : decode cX10_count 70 = .ok (.iconst (-1), 1) := by decide +kernel
theorem dX10_count_71 : decode cX10_count 71 = .ok (.ireturn, 1) := by decide +kernel
theorem dX10_trace_0 : decode cX10_trace 0 = .ok (.aload_n 0, 1) := by decide +kernel
theorem dX10_trace_1 : decode cX10_trace 1 = .ok (.getfield 285, 3) := by decide +kernel
theorem dX10_trace_4 : decode cX10_trace 4 = .ok (.lreturn, 1) := by decide +kernel
theorem dJ6_bitCount_0f7a4_0 : decode cJ6_bitCount_0f7a4 0 = .ok (.iload_n 0, 1) := by decide +kernel
theorem dJ6_bitCount_0f7a4_1 : decode cJ6_bitCount_0f7a4 1 = .ok (.iload_n 0, 1) := by decide +kernel
theorem dJ6_bitCount_0f7a4_2 : decode cJ6_bitCount_0f7a4 2 = .ok (.iconst 1, 1) := by decide +kernel
theorem dJ6_bitCount_0f7a4_3 : decode cJ6_bitCount_0f7a4 3 = .ok (.iushr, 1) := by decide +kernel
theorem dJ6_bitCount_0f7a4_4 : decode cJ6_bitCount_0f7a4 4 = .ok (.ldc_w 265, 3) := by decide +kernel
theorem dJ6_bitCount_0f7a4_7 : decode cJ6_bitCount_0f7a4 7 = .ok (.iand, 1) := by decide +kernel
theorem dJ6_bitCount_0f7a4_8 : decode cJ6_bitCount_0f7a4 8 = .ok (.isub, 1) := by decide +kernel
theorem dJ6_bitCount_0f7a4_9 : decode cJ6_bitCount_0f7a4 9 = .ok (.istore_n 0, 1) := by decide +kernel
theorem dJ6_bitCount_0f7a4_10 : decode cJ6_bitCount_0f7a4 10 = .ok (.iload_n 0, 1) := by decide +kernel
theorem dJ6_bitCount_0f7a4_11 : decode cJ6_bitCount_0f7a4 11 = .ok (.ldc_w 266, 3) := by decide +kernel
theorem dJ6_bitCount_0f7a4_14 : decode cJ6_bitCount_0f7a4 14 = .ok (.iand, 1) := by decide +kernel
theorem dJ6_bitCount_0f7a4_15 : decode cJ6_bitCount_0f7a4 15 = .ok (.iload_n 0, 1) := by decide +kernel
theorem dJ6_bitCount_0f7a4_16 : decode cJ6_bitCount_0f7a4 16 = .ok (.iconst 2, 1) := by decide +kernel
theorem dJ6_bitCount_0f7a4_17 : decode cJ6_bitCount_0f7a4 17 = .ok (.iushr, 1) := by decide +kernel
theorem dJ6_bitCount_0f7a4_18 : decode cJ6_bitCount_0f7a4 18 = .ok (.ldc_w 266, 3) := by decide +kernel
theorem dJ6_bitCount_0f7a4_21 : decode cJ6_bitCount_0f7a4 21 = .ok (.iand, 1) := by decide +kernel
theorem dJ6_bitCount_0f7a4_22 : decode cJ6_bitCount_0f7a4 22 = .ok (.iadd, 1) := by decide +kernel
theorem dJ6_bitCount_0f7a4_23 : decode cJ6_bitCount_0f7a4 23 = .ok (.istore_n 0, 1) := by decide +kernel
theorem dJ6_bitCount_0f7a4_24 : decode cJ6_bitCount_0f7a4 24 = .ok (.iload_n 0, 1) := by decide +kernel
theorem dJ6_bitCount_0f7a4_25 : decode cJ6_bitCount_0f7a4 25 = .ok (.iload_n 0, 1) := by decide +kernel
theorem dJ6_bitCount_0f7a4_26 : decode cJ6_bitCount_0f7a4 26 = .ok (.iconst 4, 1) := by decide +kernel
theorem dJ6_bitCount_0f7a4_27 : decode cJ6_bitCount_0f7a4 27 = .ok (.iushr, 1) := by decide +kernel
theorem dJ6_bitCount_0f7a4_28 : decode cJ6_bitCount_0f7a4 28 = .ok (.iadd, 1) := by decide +kernel
theorem dJ6_bitCount_0f7a4_29 : decode cJ6_bitCount_0f7a4 29 = .ok (.ldc_w 267, 3) := by decide +kernel
theorem dJ6_bitCount_0f7a4_32 : decode cJ6_bitCount_0f7a4 32 = .ok (.iand, 1) := by decide +kernel
theorem dJ6_bitCount_0f7a4_33 : decode cJ6_bitCount_0f7a4 33 = .ok (.istore_n 0, 1) := by decide +kernel
theorem dJ6_bitCount_0f7a4_34 : decode cJ6_bitCount_0f7a4 34 = .ok (.iload_n 0, 1) := by decide +kernel
theorem dJ6_bitCount_0f7a4_35 : decode cJ6_bitCount_0f7a4 35 = .ok (.iload_n 0, 1) := by decide +kernel
theorem dJ6_bitCount_0f7a4_36 : decode cJ6_bitCount_0f7a4 36 = .ok (.bipush 8, 2) := by decide +kernel
theorem dJ6_bitCount_0f7a4_38 : decode cJ6_bitCount_0f7a4 38 = .ok (.iushr, 1) := by decide +kernel
theorem dJ6_bitCount_0f7a4_39 : decode cJ6_bitCount_0f7a4 39 = .ok (.iadd, 1) := by decide +kernel
theorem dJ6_bitCount_0f7a4_40 : decode cJ6_bitCount_0f7a4 40 = .ok (.istore_n 0, 1) := by decide +kernel
theorem dJ6_bitCount_0f7a4_41 : decode cJ6_bitCount_0f7a4 41 = .ok (.iload_n 0, 1) := by decide +kernel
theorem dJ6_bitCount_0f7a4_42 : decode cJ6_bitCount_0f7a4 42 = .ok (.iload_n 0, 1) := by decide +kernel
theorem dJ6_bitCount_0f7a4_43 : decode cJ6_bitCount_0f7a4 43 = .ok (.bipush 16, 2) := by decide +kernel
theorem dJ6_bitCount_0f7a4_45 : decode cJ6_bitCount_0f7a4 45 = .ok (.iushr, 1) := by decide +kernel
theorem dJ6_bitCount_0f7a4_46 : decode cJ6_bitCount_0f7a4 46 = .ok (.iadd, 1) := by decide +kernel
theorem dJ6_bitCount_0f7a4_47 : decode cJ6_bitCount_0f7a4 47 = .ok (.istore_n 0, 1) := by decide +kernel
theorem dJ6_bitCount_0f7a4_48 : decode cJ6_bitCount_0f7a4 48 = .ok (.iload_n 0, 1) := by decide +kernel
theorem dJ6_bitCount_0f7a4_49 : decode cJ6_bitCount_0f7a4 49 = .ok (.bipush 63, 2) := by decide +kernel
theorem dJ6_bitCount_0f7a4_51 : decode cJ6_bitCount_0f7a4 51 = .ok (.iand, 1) := by decide +kernel
theorem dJ6_bitCount_0f7a4_52 : decode cJ6_bitCount_0f7a4 52 = .ok (.ireturn, 1) := by decide +kernel
theorem dJ9_max_7cf53_0 : decode cJ9_max_7cf53 0 = .ok (.iload_n 0, 1) := by decide +kernel
theorem dJ9_max_7cf53_1 : decode cJ9_max_7cf53 1 = .ok (.iload_n 1, 1) := by decide +kernel
theorem dJ9_max_7cf53_2 : decode cJ9_max_7cf53 2 = .ok (.if_icmp .lt 7, 3) := by decide +kernel
theorem dJ9_max_7cf53_5 : decode cJ9_max_7cf53 5 = .ok (.iload_n 0, 1) := by decide +kernel
theorem dJ9_max_7cf53_6 : decode cJ9_max_7cf53 6 = .ok (.goto 4, 3) := by decide +kernel
theorem dJ9_max_7cf53_9 : decode cJ9_max_7cf53 9 = .ok (.iload_n 1, 1) := by decide +kernel
theorem dJ9_max_7cf53_10 : decode cJ9_max_7cf53 10 = .ok (.ireturn, 1) := by decide +kernel
theorem dJ9_min_7cf53_0 : decode cJ9_min_7cf53 0 = .ok (.iload_n 0, 1) := by decide +kernel
theorem dJ9_min_7cf53_1 : decode cJ9_min_7cf53 1 = .ok (.iload_n 1, 1) := by decide +kernel
theorem dJ9_min_7cf53_2 : decode cJ9_min_7cf53 2 = .ok (.if_icmp .gt 7, 3) := by decide +kernel
theorem dJ9_min_7cf53_5 : decode cJ9_min_7cf53 5 = .ok (.iload_n 0, 1) := by decide +kernel
theorem dJ9_min_7cf53_6 : decode cJ9_min_7cf53 6 = .ok (.goto 4, 3) := by decide +kernel
theorem dJ9_min_7cf53_9 : decode cJ9_min_7cf53 9 = .ok (.iload_n 1, 1) := by decide +kernel
theorem dJ9_min_7cf53_10 : decode cJ9_min_7cf53 10 = .ok (.ireturn, 1) := by decide +kernel
theorem dJ7_fill_53178_0 : decode cJ7_fill_53178 0 = .ok (.iconst 0, 1) := by decide +kernel
theorem dJ7_fill_53178_1 : decode cJ7_fill_53178 1 = .ok (.istore_n 2, 1) := by decide +kernel
theorem dJ7_fill_53178_2 : decode cJ7_fill_53178 2 = .ok (.aload_n 0, 1) := by decide +kernel
theorem dJ7_fill_53178_3 : decode cJ7_fill_53178 3 = .ok (.arraylength, 1) := by decide +kernel
theorem dJ7_fill_53178_4 : decode cJ7_fill_53178 4 = .ok (.istore_n 3, 1) := by decide +kernel
theorem dJ7_fill_53178_5 : decode cJ7_fill_53178 5 = .ok (.iload_n 2, 1) := by decide +kernel
theorem dJ7_fill_53178_6 : decode cJ7_fill_53178 6 = .ok (.iload_n 3, 1) := by decide +kernel
theorem dJ7_fill_53178_7 : decode cJ7_fill_53178 7 = .ok (.if_icmp .ge 13, 3) := by decide +kernel
theorem dJ7_fill_53178_10 : decode cJ7_fill_53178 10 = .ok (.aload_n 0, 1) := by decide +kernel
theorem dJ7_fill_53178_11 : decode cJ7_fill_53178 11 = .ok (.iload_n 2, 1) := by decide +kernel
theorem dJ7_fill_53178_12 : decode cJ7_fill_53178 12 = .ok (.iload_n 1, 1) := by decide +kernel
theorem dJ7_fill_53178_13 : decode cJ7_fill_53178 13 = .ok (.iastore, 1) := by decide +kernel
theorem dJ7_fill_53178_14 : decode cJ7_fill_53178 14 = .ok (.iinc 2 1, 3) := by decide +kernel
theorem dJ7_fill_53178_17 : decode cJ7_fill_53178 17 = .ok (.goto (-12), 3) := by decide +kernel
theorem dJ7_fill_53178_20 : decode cJ7_fill_53178 20 = .ok (.return_, 1) := by decide +kernel
theorem dL_law_0 : decode cL_law 0 = .ok (.new 7, 3) := by decide +kernel
theorem dL_law_3 : decode cL_law 3 = .ok (.dup, 1) := by decide +kernel
theorem dL_law_4 : decode cL_law 4 = .ok (.invokespecial 9, 3) := by decide +kernel
theorem dL_law_7 : decode cL_law 7 = .ok (.astore_n 1, 1) := by decide +kernel
theorem dL_law_8 : decode cL_law 8 = .ok (.new 10, 3) := by decide +kernel
theorem dL_law_11 : decode cL_law 11 = .ok (.dup, 1) := by decide +kernel
theorem dL_law_12 : decode cL_law 12 = .ok (.invokespecial 12, 3) := by decide +kernel
theorem dL_law_15 : decode cL_law 15 = .ok (.astore_n 2, 1) := by decide +kernel
theorem dL_law_16 : decode cL_law 16 = .ok (.iconst 0, 1) := by decide +kernel
theorem dL_law_17 : decode cL_law 17 = .ok (.istore_n 3, 1) := by decide +kernel
theorem dL_law_18 : decode cL_law 18 = .ok (.iload_n 3, 1) := by decide +kernel
theorem dL_law_19 : decode cL_law 19 = .ok (.aload_n 0, 1) := by decide +kernel
theorem dL_law_20 : decode cL_law 20 = .ok (.arraylength, 1) := by decide +kernel
theorem dL_law_21 : decode cL_law 21 = .ok (.bipush 6, 2) := by decide +kernel
theorem dL_law_23 : decode cL_law 23 = .ok (.isub, 1) := by decide +kernel
theorem dL_law_24 : decode cL_law 24 = .ok (.if_icmp .gt 1064, 3) := by decide +kernel
theorem dL_law_27 : decode cL_law 27 = .ok (.aload_n 0, 1) := by decide +kernel
theorem dL_law_28 : decode cL_law 28 = .ok (.iload_n 3, 1) := by decide +kernel
theorem dL_law_29 : decode cL_law 29 = .ok (.iaload, 1) := by decide +kernel
theorem dL_law_30 : decode cL_law 30 = .ok (.bipush 31, 2) := by decide +kernel
theorem dL_law_32 : decode cL_law 32 = .ok (.iand, 1) := by decide +kernel
theorem dL_law_33 : decode cL_law 33 = .ok (.tableswitch 1049 0 28 #[131, 154, 167, 180, 223, 256, 299, 322, 355, 388, 421, 434, 457, 500, 543, 586, 649, 712, 735, 798, 851, 864, 877, 910, 923, 966, 989, 1012, 1035], 131) := by decide +kernel
theorem dL_law_164 : decode cL_law 164 = .ok (.aload_n 1, 1) := by decide +kernel
theorem dL_law_165 : decode cL_law 165 = .ok (.aload_n 0, 1) := by decide +kernel
theorem dL_law_166 : decode cL_law 166 = .ok (.iload_n 3, 1) := by decide +kernel
theorem dL_law_167 : decode cL_law 167 = .ok (.iconst 1, 1) := by decide +kernel
theorem dL_law_168 : decode cL_law 168 = .ok (.iadd, 1) := by decide +kernel
theorem dL_law_169 : decode cL_law 169 = .ok (.iaload, 1) := by decide +kernel
theorem dL_law_170 : decode cL_law 170 = .ok (.invokevirtual 13, 3) := by decide +kernel
theorem dL_law_173 : decode cL_law 173 = .ok (.aload_n 2, 1) := by decide +kernel
theorem dL_law_174 : decode cL_law 174 = .ok (.aload_n 0, 1) := by decide +kernel
theorem dL_law_175 : decode cL_law 175 = .ok (.iload_n 3, 1) := by decide +kernel
theorem dL_law_176 : decode cL_law 176 = .ok (.iconst 1, 1) := by decide +kernel
theorem dL_law_177 : decode cL_law 177 = .ok (.iadd, 1) := by decide +kernel
theorem dL_law_178 : decode cL_law 178 = .ok (.iaload, 1) := by decide +kernel
theorem dL_law_179 : decode cL_law 179 = .ok (.invokevirtual 17, 3) := by decide +kernel
theorem dL_law_182 : decode cL_law 182 = .ok (.if_icmp .eq 900, 3) := by decide +kernel
theorem dL_law_185 : decode cL_law 185 = .ok (.iconst 0, 1) := by decide +kernel
theorem dL_law_186 : decode cL_law 186 = .ok (.ireturn, 1) := by decide +kernel
theorem dL_law_187 : decode cL_law 187 = .ok (.aload_n 1, 1) := by decide +kernel
theorem dL_law_188 : decode cL_law 188 = .ok (.invokevirtual 18, 3) := by decide +kernel
theorem dL_law_191 : decode cL_law 191 = .ok (.aload_n 2, 1) := by decide +kernel
theorem dL_law_192 : decode cL_law 192 = .ok (.invokevirtual 22, 3) := by decide +kernel
theorem dL_law_195 : decode cL_law 195 = .ok (.if_icmp .eq 887, 3) := by decide +kernel
theorem dL_law_198 : decode cL_law 198 = .ok (.iconst 0, 1) := by decide +kernel
theorem dL_law_199 : decode cL_law 199 = .ok (.ireturn, 1) := by decide +kernel
theorem dL_law_200 : decode cL_law 200 = .ok (.aload_n 1, 1) := by decide +kernel
theorem dL_law_201 : decode cL_law 201 = .ok (.invokevirtual 23, 3) := by decide +kernel
theorem dL_law_204 : decode cL_law 204 = .ok (.aload_n 2, 1) := by decide +kernel
theorem dL_law_205 : decode cL_law 205 = .ok (.invokevirtual 26, 3) := by decide +kernel
theorem dL_law_208 : decode cL_law 208 = .ok (.if_icmp .eq 874, 3) := by decide +kernel
theorem dL_law_211 : decode cL_law 211 = .ok (.iconst 0, 1) := by decide +kernel
theorem dL_law_212 : decode cL_law 212 = .ok (.ireturn, 1) := by decide +kernel
theorem dL_law_213 : decode cL_law 213 = .ok (.aload_n 1, 1) := by decide +kernel
theorem dL_law_214 : decode cL_law 214 = .ok (.aload_n 0, 1) := by decide +kernel
theorem dL_law_215 : decode cL_law 215 = .ok (.iload_n 3, 1) := by decide +kernel
theorem dL_law_216 : decode cL_law 216 = .ok (.iconst 1, 1) := by decide +kernel
theorem dL_law_217 : decode cL_law 217 = .ok (.iadd, 1) := by decide +kernel
theorem dL_law_218 : decode cL_law 218 = .ok (.iaload, 1) := by decide +kernel
theorem dL_law_219 : decode cL_law 219 = .ok (.aload_n 0, 1) := by decide +kernel
theorem dL_law_220 : decode cL_law 220 = .ok (.iload_n 3, 1) := by decide +kernel
theorem dL_law_221 : decode cL_law 221 = .ok (.iconst 2, 1) := by decide +kernel
theorem dL_law_222 : decode cL_law 222 = .ok (.iadd, 1) := by decide +kernel
theorem dL_law_223 : decode cL_law 223 = .ok (.iaload, 1) := by decide +kernel
theorem dL_law_224 : decode cL_law 224 = .ok (.aload_n 0, 1) := by decide +kernel
theorem dL_law_225 : decode cL_law 225 = .ok (.iload_n 3, 1) := by decide +kernel
theorem dL_law_226 : decode cL_law 226 = .ok (.iconst 3, 1) := by decide +kernel
theorem dL_law_227 : decode cL_law 227 = .ok (.iadd, 1) := by decide +kernel
theorem dL_law_228 : decode cL_law 228 = .ok (.iaload, 1) := by decide +kernel
theorem dL_law_229 : decode cL_law 229 = .ok (.invokevirtual 27, 3) := by decide +kernel
theorem dL_law_232 : decode cL_law 232 = .ok (.aload_n 2, 1) := by decide +kernel
theorem dL_law_233 : decode cL_law 233 = .ok (.aload_n 0, 1) := by decide +kernel
theorem dL_law_234 : decode cL_law 234 = .ok (.iload_n 3, 1) := by decide +kernel
theorem dL_law_235 : decode cL_law 235 = .ok (.iconst 1, 1) := by decide +kernel
theorem dL_law_236 : decode cL_law 236 = .ok (.iadd, 1) := by decide +kernel
theorem dL_law_237 : decode cL_law 237 = .ok (.iaload, 1) := by decide +kernel
theorem dL_law_238 : decode cL_law 238 = .ok (.aload_n 0, 1) := by decide +kernel
theorem dL_law_239 : decode cL_law 239 = .ok (.iload_n 3, 1) := by decide +kernel
theorem dL_law_240 : decode cL_law 240 = .ok (.iconst 2, 1) := by decide +kernel
theorem dL_law_241 : decode cL_law 241 = .ok (.iadd, 1) := by decide +kernel
theorem dL_law_242 : decode cL_law 242 = .ok (.iaload, 1) := by decide +kernel
theorem dL_law_243 : decode cL_law 243 = .ok (.aload_n 0, 1) := by decide +kernel
theorem dL_law_244 : decode cL_law 244 = .ok (.iload_n 3, 1) := by decide +kernel
theorem dL_law_245 : decode cL_law 245 = .ok (.iconst 3, 1) := by decide +kernel
theorem dL_law_246 : decode cL_law 246 = .ok (.iadd, 1) := by decide +kernel
theorem dL_law_247 : decode cL_law 247 = .ok (.iaload, 1) := by decide +kernel
theorem dL_law_248 : decode cL_law 248 = .ok (.invokevirtual 31, 3) := by decide +kernel
theorem dL_law_251 : decode cL_law 251 = .ok (.if_icmp .eq 831, 3) := by decide +kernel
theorem dL_law_254 : decode cL_law 254 = .ok (.iconst 0, 1) := by decide +kernel
theorem dL_law_255 : decode cL_law 255 = .ok (.ireturn, 1) := by decide +kernel
theorem dL_law_256 : decode cL_law 256 = .ok (.aload_n 1, 1) := by decide +kernel
theorem dL_law_257 : decode cL_law 257 = .ok (.aload_n 0, 1) := by decide +kernel
theorem dL_law_258 : decode cL_law 258 = .ok (.iload_n 3, 1) := by decide +kernel
theorem dL_law_259 : decode cL_law 259 = .ok (.iconst 1, 1) := by decide +kernel
theorem dL_law_260 : decode cL_law 260 = .ok (.iadd, 1) := by decide +kernel
theorem dL_law_261 : decode cL_law 261 = .ok (.iaload, 1) := by decide +kernel
theorem dL_law_262 : decode cL_law 262 = .ok (.aload_n 0, 1) := by decide +kernel
theorem dL_law_263 : decode cL_law 263 = .ok (.iload_n 3, 1) := by decide +kernel
theorem dL_law_264 : decode cL_law 264 = .ok (.iconst 2, 1) := by decide +kernel
theorem dL_law_265 : decode cL_law 265 = .ok (.iadd, 1) := by decide +kernel
theorem dL_law_266 : decode cL_law 266 = .ok (.iaload, 1) := by decide +kernel
theorem dL_law_267 : decode cL_law 267 = .ok (.invokevirtual 32, 3) := by decide +kernel
theorem dL_law_270 : decode cL_law 270 = .ok (.aload_n 2, 1) := by decide +kernel
theorem dL_law_271 : decode cL_law 271 = .ok (.aload_n 0, 1) := by decide +kernel
theorem dL_law_272 : decode cL_law 272 = .ok (.iload_n 3, 1) := by decide +kernel
theorem dL_law_273 : decode cL_law 273 = .ok (.iconst 1, 1) := by decide +kernel
theorem dL_law_274 : decode cL_law 274 = .ok (.iadd, 1) := by decide +kernel
theorem dL_law_275 : decode cL_law 275 = .ok (.iaload, 1) := by decide +kernel
theorem dL_law_276 : decode cL_law 276 = .ok (.aload_n 0, 1) := by decide +kernel
theorem dL_law_277 : decode cL_law 277 = .ok (.iload_n 3, 1) := by decide +kernel
theorem dL_law_278 : decode cL_law 278 = .ok (.iconst 2, 1) := by decide +kernel
theorem dL_law_279 : decode cL_law 279 = .ok (.iadd, 1) := by decide +kernel
theorem dL_law_280 : decode cL_law 280 = .ok (.iaload, 1) := by decide +kernel
theorem dL_law_281 : decode cL_law 281 = .ok (.invokevirtual 36, 3) := by decide +kernel
theorem dL_law_284 : decode cL_law 284 = .ok (.if_icmp .eq 798, 3) := by decide +kernel
theorem dL_law_287 : decode cL_law 287 = .ok (.iconst 0, 1) := by decide +kernel
theorem dL_law_288 : decode cL_law 288 = .ok (.ireturn, 1) := by decide +kernel
theorem dL_law_289 : decode cL_law 289 = .ok (.aload_n 1, 1) := by decide +kernel
theorem dL_law_290 : decode cL_law 290 = .ok (.aload_n 0, 1) := by decide +kernel
theorem dL_law_291 : decode cL_law 291 = .ok (.iload_n 3, 1) := by decide +kernel
theorem dL_law_292 : decode cL_law 292 = .ok (.iconst 1, 1) := by decide +kernel
theorem dL_law_293 : decode cL_law 293 = .ok (.iadd, 1) := by decide +kernel
theorem dL_law_294 : decode cL_law 294 = .ok (.iaload, 1) := by decide +kernel
theorem dL_law_295 : decode cL_law 295 = .ok (.aload_n 0, 1) := by decide +kernel
theorem dL_law_296 : decode cL_law 296 = .ok (.iload_n 3, 1) := by decide +kernel
theorem dL_law_297 : decode cL_law 297 = .ok (.iconst 2, 1) := by decide +kernel
theorem dL_law_298 : decode cL_law 298 = .ok (.iadd, 1) := by decide +kernel
theorem dL_law_299 : decode cL_law 299 = .ok (.iaload, 1) := by decide +kernel
theorem dL_law_300 : decode cL_law 300 = .ok (.aload_n 0, 1) := by decide +kernel
theorem dL_law_301 : decode cL_law 301 = .ok (.iload_n 3, 1) := by decide +kernel
theorem dL_law_302 : decode cL_law 302 = .ok (.iconst 3, 1) := by decide +kernel
theorem dL_law_303 : decode cL_law 303 = .ok (.iadd, 1) := by decide +kernel
theorem dL_law_304 : decode cL_law 304 = .ok (.iaload, 1) := by decide +kernel
theorem dL_law_305 : decode cL_law 305 = .ok (.invokevirtual 37, 3) := by decide +kernel
theorem dL_law_308 : decode cL_law 308 = .ok (.aload_n 2, 1) := by decide +kernel
theorem dL_law_309 : decode cL_law 309 = .ok (.aload_n 0, 1) := by decide +kernel
theorem dL_law_310 : decode cL_law 310 = .ok (.iload_n 3, 1) := by decide +kernel
theorem dL_law_311 : decode cL_law 311 = .ok (.iconst 1, 1) := by decide +kernel
theorem dL_law_312 : decode cL_law 312 = .ok (.iadd, 1) := by decide +kernel
theorem dL_law_313 : decode cL_law 313 = .ok (.iaload, 1) := by decide +kernel
theorem dL_law_314 : decode cL_law 314 = .ok (.aload_n 0, 1) := by decide +kernel
theorem dL_law_315 : decode cL_law 315 = .ok (.iload_n 3, 1) := by decide +kernel
theorem dL_law_316 : decode cL_law 316 = .ok (.iconst 2, 1) := by decide +kernel
theorem dL_law_317 : decode cL_law 317 = .ok (.iadd, 1) := by decide +kernel
theorem dL_law_318 : decode cL_law 318 = .ok (.iaload, 1) := by decide +kernel
theorem dL_law_319 : decode cL_law 319 = .ok (.aload_n 0, 1) := by decide +kernel
theorem dL_law_320 : decode cL_law 320 = .ok (.iload_n 3, 1) := by decide +kernel
theorem dL_law_321 : decode cL_law 321 = .ok (.iconst 3, 1) := by decide +kernel
theorem dL_law_322 : decode cL_law 322 = .ok (.iadd, 1) := by decide +kernel
theorem dL_law_323 : decode cL_law 323 = .ok (.iaload, 1) := by decide +kernel
theorem dL_law_324 : decode cL_law 324 = .ok (.invokevirtual 40, 3) := by decide +kernel
theorem dL_law_327 : decode cL_law 327 = .ok (.if_icmp .eq 755, 3) := by decide +kernel
theorem dL_law_330 : decode cL_law 330 = .ok (.iconst 0, 1) := by decide +kernel
theorem dL_law_331 : decode cL_law 331 = .ok (.ireturn, 1) := by decide +kernel
theorem dL_law_332 : decode cL_law 332 = .ok (.aload_n 1, 1) := by decide +kernel
theorem dL_law_333 : decode cL_law 333 = .ok (.aload_n 0, 1) := by decide +kernel
theorem dL_law_334 : decode cL_law 334 = .ok (.iload_n 3, 1) := by decide +kernel
theorem dL_law_335 : decode cL_law 335 = .ok (.iconst 1, 1) := by decide +kernel
theorem dL_law_336 : decode cL_law 336 = .ok (.iadd, 1) := by decide +kernel
theorem dL_law_337 : decode cL_law 337 = .ok (.iaload, 1) := by decide +kernel
theorem dL_law_338 : decode cL_law 338 = .ok (.invokevirtual 41, 3) := by decide +kernel
theorem dL_law_341 : decode cL_law 341 = .ok (.aload_n 2, 1) := by decide +kernel
theorem dL_law_342 : decode cL_law 342 = .ok (.aload_n 0, 1) := by decide +kernel
theorem dL_law_343 : decode cL_law 343 = .ok (.iload_n 3, 1) := by decide +kernel
theorem dL_law_344 : decode cL_law 344 = .ok (.iconst 1, 1) := by decide +kernel
theorem dL_law_345 : decode cL_law 345 = .ok (.iadd, 1) := by decide +kernel
theorem dL_law_346 : decode cL_law 346 = .ok (.iaload, 1) := by decide +kernel
theorem dL_law_347 : decode cL_law 347 = .ok (.invokevirtual 44, 3) := by decide +kernel
theorem dL_law_350 : decode cL_law 350 = .ok (.if_icmp .eq 732, 3) := by decide +kernel
theorem dL_law_353 : decode cL_law 353 = .ok (.iconst 0, 1) := by decide +kernel
theorem dL_law_354 : decode cL_law 354 = .ok (.ireturn, 1) := by decide +kernel
theorem dL_law_355 : decode cL_law 355 = .ok (.aload_n 1, 1) := by decide +kernel
theorem dL_law_356 : decode cL_law 356 = .ok (.aload_n 0, 1) := by decide +kernel
theorem dL_law_357 : decode cL_law 357 = .ok (.iload_n 3, 1) := by decide +kernel
theorem dL_law_358 : decode cL_law 358 = .ok (.iconst 1, 1) := by decide +kernel
theorem dL_law_359 : decode cL_law 359 = .ok (.iadd, 1) := by decide +kernel
theorem dL_law_360 : decode cL_law 360 = .ok (.iaload, 1) := by decide +kernel
theorem dL_law_361 : decode cL_law 361 = .ok (.aload_n 0, 1) := by decide +kernel
theorem dL_law_362 : decode cL_law 362 = .ok (.iload_n 3, 1) := by decide +kernel
theorem dL_law_363 : decode cL_law 363 = .ok (.iconst 2, 1) := by decide +kernel
theorem dL_law_364 : decode cL_law 364 = .ok (.iadd, 1) := by decide +kernel
theorem dL_law_365 : decode cL_law 365 = .ok (.iaload, 1) := by decide +kernel
theorem dL_law_366 : decode cL_law 366 = .ok (.invokevirtual 45, 3) := by decide +kernel
theorem dL_law_369 : decode cL_law 369 = .ok (.aload_n 2, 1) := by decide +kernel
theorem dL_law_370 : decode cL_law 370 = .ok (.aload_n 0, 1) := by decide +kernel
theorem dL_law_371 : decode cL_law 371 = .ok (.iload_n 3, 1) := by decide +kernel
theorem dL_law_372 : decode cL_law 372 = .ok (.iconst 1, 1) := by decide +kernel
theorem dL_law_373 : decode cL_law 373 = .ok (.iadd, 1) := by decide +kernel
theorem dL_law_374 : decode cL_law 374 = .ok (.iaload, 1) := by decide +kernel
theorem dL_law_375 : decode cL_law 375 = .ok (.aload_n 0, 1) := by decide +kernel
theorem dL_law_376 : decode cL_law 376 = .ok (.iload_n 3, 1) := by decide +kernel
theorem dL_law_377 : decode cL_law 377 = .ok (.iconst 2, 1) := by decide +kernel
theorem dL_law_378 : decode cL_law 378 = .ok (.iadd, 1) := by decide +kernel
theorem dL_law_379 : decode cL_law 379 = .ok (.iaload, 1) := by decide +kernel
theorem dL_law_380 : decode cL_law 380 = .ok (.invokevirtual 48, 3) := by decide +kernel
theorem dL_law_383 : decode cL_law 383 = .ok (.if_icmp .eq 699, 3) := by decide +kernel
theorem dL_law_386 : decode cL_law 386 = .ok (.iconst 0, 1) := by decide +kernel
theorem dL_law_387 : decode cL_law 387 = .ok (.ireturn, 1) := by decide +kernel
theorem dL_law_388 : decode cL_law 388 = .ok (.aload_n 1, 1) := by decide +kernel
theorem dL_law_389 : decode cL_law 389 = .ok (.aload_n 0, 1) := by decide +kernel
theorem dL_law_390 : decode cL_law 390 = .ok (.iload_n 3, 1) := by decide +kernel
theorem dL_law_391 : decode cL_law 391 = .ok (.iconst 1, 1) := by decide +kernel
theorem dL_law_392 : decode cL_law 392 = .ok (.iadd, 1) := by decide +kernel
theorem dL_law_393 : decode cL_law 393 = .ok (.iaload, 1) := by decide +kernel
theorem dL_law_394 : decode cL_law 394 = .ok (.aload_n 0, 1) := by decide +kernel
theorem dL_law_395 : decode cL_law 395 = .ok (.iload_n 3, 1) := by decide +kernel
theorem dL_law_396 : decode cL_law 396 = .ok (.iconst 2, 1) := by decide +kernel
theorem dL_law_397 : decode cL_law 397 = .ok (.iadd, 1) := by decide +kernel
theorem dL_law_398 : decode cL_law 398 = .ok (.iaload, 1) := by decide +kernel
theorem dL_law_399 : decode cL_law 399 = .ok (.invokevirtual 49, 3) := by decide +kernel
theorem dL_law_402 : decode cL_law 402 = .ok (.aload_n 2, 1) := by decide +kernel
theorem dL_law_403 : decode cL_law 403 = .ok (.aload_n 0, 1) := by decide +kernel
theorem dL_law_404 : decode cL_law 404 = .ok (.iload_n 3, 1) := by decide +kernel
theorem dL_law_405 : decode cL_law 405 = .ok (.iconst 1, 1) := by decide +kernel
theorem dL_law_406 : decode cL_law 406 = .ok (.iadd, 1) := by decide +kernel
theorem dL_law_407 : decode cL_law 407 = .ok (.iaload, 1) := by decide +kernel
theorem dL_law_408 : decode cL_law 408 = .ok (.aload_n 0, 1) := by decide +kernel
theorem dL_law_409 : decode cL_law 409 = .ok (.iload_n 3, 1) := by decide +kernel
theorem dL_law_410 : decode cL_law 410 = .ok (.iconst 2, 1) := by decide +kernel
theorem dL_law_411 : decode cL_law 411 = .ok (.iadd, 1) := by decide +kernel
theorem dL_law_412 : decode cL_law 412 = .ok (.iaload, 1) := by decide +kernel
theorem dL_law_413 : decode cL_law 413 = .ok (.invokevirtual 52, 3) := by decide +kernel
theorem dL_law_416 : decode cL_law 416 = .ok (.if_icmp .eq 666, 3) := by decide +kernel
theorem dL_law_419 : decode cL_law 419 = .ok (.iconst 0, 1) := by decide +kernel
theorem dL_law_420 : decode cL_law 420 = .ok (.ireturn, 1) := by decide +kernel
theorem dL_law_421 : decode cL_law 421 = .ok (.aload_n 1, 1) := by decide +kernel
theorem dL_law_422 : decode cL_law 422 = .ok (.aload_n 0, 1) := by decide +kernel
theorem dL_law_423 : decode cL_law 423 = .ok (.iload_n 3, 1) := by decide +kernel
theorem dL_law_424 : decode cL_law 424 = .ok (.iconst 1, 1) := by decide +kernel
theorem dL_law_425 : decode cL_law 425 = .ok (.iadd, 1) := by decide +kernel
theorem dL_law_426 : decode cL_law 426 = .ok (.iaload, 1) := by decide +kernel
theorem dL_law_427 : decode cL_law 427 = .ok (.aload_n 0, 1) := by decide +kernel
theorem dL_law_428 : decode cL_law 428 = .ok (.iload_n 3, 1) := by decide +kernel
theorem dL_law_429 : decode cL_law 429 = .ok (.iconst 2, 1) := by decide +kernel
theorem dL_law_430 : decode cL_law 430 = .ok (.iadd, 1) := by decide +kernel
theorem dL_law_431 : decode cL_law 431 = .ok (.iaload, 1) := by decide +kernel
theorem dL_law_432 : decode cL_law 432 = .ok (.invokevirtual 53, 3) := by decide +kernel
theorem dL_law_435 : decode cL_law 435 = .ok (.aload_n 2, 1) := by decide +kernel
theorem dL_law_436 : decode cL_law 436 = .ok (.aload_n 0, 1) := by decide +kernel
theorem dL_law_437 : decode cL_law 437 = .ok (.iload_n 3, 1) := by decide +kernel
theorem dL_law_438 : decode cL_law 438 = .ok (.iconst 1, 1) := by decide +kernel
theorem dL_law_439 : decode cL_law 439 = .ok (.iadd, 1) := by decide +kernel
theorem dL_law_440 : decode cL_law 440 = .ok (.iaload, 1) := by decide +kernel
theorem dL_law_441 : decode cL_law 441 = .ok (.aload_n 0, 1) := by decide +kernel
theorem dL_law_442 : decode cL_law 442 = .ok (.iload_n 3, 1) := by decide +kernel
theorem dL_law_443 : decode cL_law 443 = .ok (.iconst 2, 1) := by decide +kernel
theorem dL_law_444 : decode cL_law 444 = .ok (.iadd, 1) := by decide +kernel
theorem dL_law_445 : decode cL_law 445 = .ok (.iaload, 1) := by decide +kernel
theorem dL_law_446 : decode cL_law 446 = .ok (.invokevirtual 56, 3) := by decide +kernel
theorem dL_law_449 : decode cL_law 449 = .ok (.if_icmp .eq 633, 3) := by decide +kernel
theorem dL_law_452 : decode cL_law 452 = .ok (.iconst 0, 1) := by decide +kernel
theorem dL_law_453 : decode cL_law 453 = .ok (.ireturn, 1) := by decide +kernel
theorem dL_law_454 : decode cL_law 454 = .ok (.aload_n 1, 1) := by decide +kernel
theorem dL_law_455 : decode cL_law 455 = .ok (.invokevirtual 57, 3) := by decide +kernel
theorem dL_law_458 : decode cL_law 458 = .ok (.aload_n 2, 1) := by decide +kernel
theorem dL_law_459 : decode cL_law 459 = .ok (.invokevirtual 60, 3) := by decide +kernel
theorem dL_law_462 : decode cL_law 462 = .ok (.if_icmp .eq 620, 3) := by decide +kernel
theorem dL_law_465 : decode cL_law 465 = .ok (.iconst 0, 1) := by decide +kernel
theorem dL_law_466 : decode cL_law 466 = .ok (.ireturn, 1) := by decide +kernel
theorem dL_law_467 : decode cL_law 467 = .ok (.aload_n 1, 1) := by decide +kernel
theorem dL_law_468 : decode cL_law 468 = .ok (.aload_n 0, 1) := by decide +kernel
theorem dL_law_469 : decode cL_law 469 = .ok (.iload_n 3, 1) := by decide +kernel
theorem dL_law_470 : decode cL_law 470 = .ok (.iconst 1, 1) := by decide +kernel
theorem dL_law_471 : decode cL_law 471 = .ok (.iadd, 1) := by decide +kernel
theorem dL_law_472 : decode cL_law 472 = .ok (.iaload, 1) := by decide +kernel
theorem dL_law_473 : decode cL_law 473 = .ok (.invokevirtual 61, 3) := by decide +kernel
theorem dL_law_476 : decode cL_law 476 = .ok (.aload_n 2, 1) := by decide +kernel
theorem dL_law_477 : decode cL_law 477 = .ok (.aload_n 0, 1) := by decide +kernel
theorem dL_law_478 : decode cL_law 478 = .ok (.iload_n 3, 1) := by decide +kernel
theorem dL_law_479 : decode cL_law 479 = .ok (.iconst 1, 1) := by decide +kernel
theorem dL_law_480 : decode cL_law 480 = .ok (.iadd, 1) := by decide +kernel
theorem dL_law_481 : decode cL_law 481 = .ok (.iaload, 1) := by decide +kernel
theorem dL_law_482 : decode cL_law 482 = .ok (.invokevirtual 64, 3) := by decide +kernel
theorem dL_law_485 : decode cL_law 485 = .ok (.if_icmp .eq 597, 3) := by decide +kernel
theorem dL_law_488 : decode cL_law 488 = .ok (.iconst 0, 1) := by decide +kernel
theorem dL_law_489 : decode cL_law 489 = .ok (.ireturn, 1) := by decide +kernel
theorem dL_law_490 : decode cL_law 490 = .ok (.aload_n 1, 1) := by decide +kernel
theorem dL_law_491 : decode cL_law 491 = .ok (.aload_n 0, 1) := by decide +kernel
theorem dL_law_492 : decode cL_law 492 = .ok (.iload_n 3, 1) := by decide +kernel
theorem dL_law_493 : decode cL_law 493 = .ok (.iconst 1, 1) := by decide +kernel
theorem dL_law_494 : decode cL_law 494 = .ok (.iadd, 1) := by decide +kernel
theorem dL_law_495 : decode cL_law 495 = .ok (.iaload, 1) := by decide +kernel
theorem dL_law_496 : decode cL_law 496 = .ok (.aload_n 0, 1) := by decide +kernel
theorem dL_law_497 : decode cL_law 497 = .ok (.iload_n 3, 1) := by decide +kernel
theorem dL_law_498 : decode cL_law 498 = .ok (.iconst 2, 1) := by decide +kernel
theorem dL_law_499 : decode cL_law 499 = .ok (.iadd, 1) := by decide +kernel
theorem dL_law_500 : decode cL_law 500 = .ok (.iaload, 1) := by decide +kernel
theorem dL_law_501 : decode cL_law 501 = .ok (.aload_n 0, 1) := by decide +kernel
theorem dL_law_502 : decode cL_law 502 = .ok (.iload_n 3, 1) := by decide +kernel
theorem dL_law_503 : decode cL_law 503 = .ok (.iconst 3, 1) := by decide +kernel
theorem dL_law_504 : decode cL_law 504 = .ok (.iadd, 1) := by decide +kernel
theorem dL_law_505 : decode cL_law 505 = .ok (.iaload, 1) := by decide +kernel
theorem dL_law_506 : decode cL_law 506 = .ok (.invokevirtual 65, 3) := by decide +kernel
theorem dL_law_509 : decode cL_law 509 = .ok (.aload_n 2, 1) := by decide +kernel
theorem dL_law_510 : decode cL_law 510 = .ok (.aload_n 0, 1) := by decide +kernel
theorem dL_law_511 : decode cL_law 511 = .ok (.iload_n 3, 1) := by decide +kernel
theorem dL_law_512 : decode cL_law 512 = .ok (.iconst 1, 1) := by decide +kernel
theorem dL_law_513 : decode cL_law 513 = .ok (.iadd, 1) := by decide +kernel
theorem dL_law_514 : decode cL_law 514 = .ok (.iaload, 1) := by decide +kernel
theorem dL_law_515 : decode cL_law 515 = .ok (.aload_n 0, 1) := by decide +kernel
theorem dL_law_516 : decode cL_law 516 = .ok (.iload_n 3, 1) := by decide +kernel
theorem dL_law_517 : decode cL_law 517 = .ok (.iconst 2, 1) := by decide +kernel
theorem dL_law_518 : decode cL_law 518 = .ok (.iadd, 1) := by decide +kernel
theorem dL_law_519 : decode cL_law 519 = .ok (.iaload, 1) := by decide +kernel
theorem dL_law_520 : decode cL_law 520 = .ok (.aload_n 0, 1) := by decide +kernel
theorem dL_law_521 : decode cL_law 521 = .ok (.iload_n 3, 1) := by decide +kernel
theorem dL_law_522 : decode cL_law 522 = .ok (.iconst 3, 1) := by decide +kernel
theorem dL_law_523 : decode cL_law 523 = .ok (.iadd, 1) := by decide +kernel
theorem dL_law_524 : decode cL_law 524 = .ok (.iaload, 1) := by decide +kernel
theorem dL_law_525 : decode cL_law 525 = .ok (.invokevirtual 68, 3) := by decide +kernel
theorem dL_law_528 : decode cL_law 528 = .ok (.if_icmp .eq 554, 3) := by decide +kernel
theorem dL_law_531 : decode cL_law 531 = .ok (.iconst 0, 1) := by decide +kernel
theorem dL_law_532 : decode cL_law 532 = .ok (.ireturn, 1) := by decide +kernel
theorem dL_law_533 : decode cL_law 533 = .ok (.aload_n 1, 1) := by decide +kernel
theorem dL_law_534 : decode cL_law 534 = .ok (.aload_n 0, 1) := by decide +kernel
theorem dL_law_535 : decode cL_law 535 = .ok (.iload_n 3, 1) := by decide +kernel
theorem dL_law_536 : decode cL_law 536 = .ok (.iconst 1, 1) := by decide +kernel
theorem dL_law_537 : decode cL_law 537 = .ok (.iadd, 1) := by decide +kernel
theorem dL_law_538 : decode cL_law 538 = .ok (.iaload, 1) := by decide +kernel
theorem dL_law_539 : decode cL_law 539 = .ok (.aload_n 0, 1) := by decide +kernel
theorem dL_law_540 : decode cL_law 540 = .ok (.iload_n 3, 1) := by decide +kernel
theorem dL_law_541 : decode cL_law 541 = .ok (.iconst 2, 1) := by decide +kernel
theorem dL_law_542 : decode cL_law 542 = .ok (.iadd, 1) := by decide +kernel
theorem dL_law_543 : decode cL_law 543 = .ok (.iaload, 1) := by decide +kernel
theorem dL_law_544 : decode cL_law 544 = .ok (.aload_n 0, 1) := by decide +kernel
theorem dL_law_545 : decode cL_law 545 = .ok (.iload_n 3, 1) := by decide +kernel
theorem dL_law_546 : decode cL_law 546 = .ok (.iconst 3, 1) := by decide +kernel
theorem dL_law_547 : decode cL_law 547 = .ok (.iadd, 1) := by decide +kernel
theorem dL_law_548 : decode cL_law 548 = .ok (.iaload, 1) := by decide +kernel
theorem dL_law_549 : decode cL_law 549 = .ok (.invokevirtual 69, 3) := by decide +kernel
theorem dL_law_552 : decode cL_law 552 = .ok (.aload_n 2, 1) := by decide +kernel
theorem dL_law_553 : decode cL_law 553 = .ok (.aload_n 0, 1) := by decide +kernel
theorem dL_law_554 : decode cL_law 554 = .ok (.iload_n 3, 1) := by decide +kernel
theorem dL_law_555 : decode cL_law 555 = .ok (.iconst 1, 1) := by decide +kernel
theorem dL_law_556 : decode cL_law 556 = .ok (.iadd, 1) := by decide +kernel
theorem dL_law_557 : decode cL_law 557 = .ok (.iaload, 1) := by decide +kernel
theorem dL_law_558 : decode cL_law 558 = .ok (.aload_n 0, 1) := by decide +kernel
theorem dL_law_559 : decode cL_law 559 = .ok (.iload_n 3, 1) := by decide +kernel
theorem dL_law_560 : decode cL_law 560 = .ok (.iconst 2, 1) := by decide +kernel
theorem dL_law_561 : decode cL_law 561 = .ok (.iadd, 1) := by decide +kernel
theorem dL_law_562 : decode cL_law 562 = .ok (.iaload, 1) := by decide +kernel
theorem dL_law_563 : decode cL_law 563 = .ok (.aload_n 0, 1) := by decide +kernel
theorem dL_law_564 : decode cL_law 564 = .ok (.iload_n 3, 1) := by decide +kernel
theorem dL_law_565 : decode cL_law 565 = .ok (.iconst 3, 1) := by decide +kernel
theorem dL_law_566 : decode cL_law 566 = .ok (.iadd, 1) := by decide +kernel
theorem dL_law_567 : decode cL_law 567 = .ok (.iaload, 1) := by decide +kernel
theorem dL_law_568 : decode cL_law 568 = .ok (.invokevirtual 72, 3) := by decide +kernel
theorem dL_law_571 : decode cL_law 571 = .ok (.if_icmp .eq 511, 3) := by decide +kernel
theorem dL_law_574 : decode cL_law 574 = .ok (.iconst 0, 1) := by decide +kernel
theorem dL_law_575 : decode cL_law 575 = .ok (.ireturn, 1) := by decide +kernel
theorem dL_law_576 : decode cL_law 576 = .ok (.aload_n 1, 1) := by decide +kernel
theorem dL_law_577 : decode cL_law 577 = .ok (.aload_n 0, 1) := by decide +kernel
theorem dL_law_578 : decode cL_law 578 = .ok (.iload_n 3, 1) := by decide +kernel
theorem dL_law_579 : decode cL_law 579 = .ok (.iconst 1, 1) := by decide +kernel
theorem dL_law_580 : decode cL_law 580 = .ok (.iadd, 1) := by decide +kernel
theorem dL_law_581 : decode cL_law 581 = .ok (.iaload, 1) := by decide +kernel
theorem dL_law_582 : decode cL_law 582 = .ok (.aload_n 0, 1) := by decide +kernel
theorem dL_law_583 : decode cL_law 583 = .ok (.iload_n 3, 1) := by decide +kernel
theorem dL_law_584 : decode cL_law 584 = .ok (.iconst 2, 1) := by decide +kernel
theorem dL_law_585 : decode cL_law 585 = .ok (.iadd, 1) := by decide +kernel
theorem dL_law_586 : decode cL_law 586 = .ok (.iaload, 1) := by decide +kernel
theorem dL_law_587 : decode cL_law 587 = .ok (.aload_n 0, 1) := by decide +kernel
theorem dL_law_588 : decode cL_law 588 = .ok (.iload_n 3, 1) := by decide +kernel
theorem dL_law_589 : decode cL_law 589 = .ok (.iconst 3, 1) := by decide +kernel
theorem dL_law_590 : decode cL_law 590 = .ok (.iadd, 1) := by decide +kernel
theorem dL_law_591 : decode cL_law 591 = .ok (.iaload, 1) := by decide +kernel
theorem dL_law_592 : decode cL_law 592 = .ok (.invokevirtual 73, 3) := by decide +kernel
theorem dL_law_595 : decode cL_law 595 = .ok (.aload_n 2, 1) := by decide +kernel
theorem dL_law_596 : decode cL_law 596 = .ok (.aload_n 0, 1) := by decide +kernel
theorem dL_law_597 : decode cL_law 597 = .ok (.iload_n 3, 1) := by decide +kernel
theorem dL_law_598 : decode cL_law 598 = .ok (.iconst 1, 1) := by decide +kernel
theorem dL_law_599 : decode cL_law 599 = .ok (.iadd, 1) := by decide +kernel
theorem dL_law_600 : decode cL_law 600 = .ok (.iaload, 1) := by decide +kernel
theorem dL_law_601 : decode cL_law 601 = .ok (.aload_n 0, 1) := by decide +kernel
theorem dL_law_602 : decode cL_law 602 = .ok (.iload_n 3, 1) := by decide +kernel
theorem dL_law_603 : decode cL_law 603 = .ok (.iconst 2, 1) := by decide +kernel
theorem dL_law_604 : decode cL_law 604 = .ok (.iadd, 1) := by decide +kernel
theorem dL_law_605 : decode cL_law 605 = .ok (.iaload, 1) := by decide +kernel
theorem dL_law_606 : decode cL_law 606 = .ok (.aload_n 0, 1) := by decide +kernel
theorem dL_law_607 : decode cL_law 607 = .ok (.iload_n 3, 1) := by decide +kernel
theorem dL_law_608 : decode cL_law 608 = .ok (.iconst 3, 1) := by decide +kernel
theorem dL_law_609 : decode cL_law 609 = .ok (.iadd, 1) := by decide +kernel
theorem dL_law_610 : decode cL_law 610 = .ok (.iaload, 1) := by decide +kernel
theorem dL_law_611 : decode cL_law 611 = .ok (.invokevirtual 76, 3) := by decide +kernel
theorem dL_law_614 : decode cL_law 614 = .ok (.if_icmp .eq 468, 3) := by decide +kernel
theorem dL_law_617 : decode cL_law 617 = .ok (.iconst 0, 1) := by decide +kernel
theorem dL_law_618 : decode cL_law 618 = .ok (.ireturn, 1) := by decide +kernel
theorem dL_law_619 : decode cL_law 619 = .ok (.aload_n 1, 1) := by decide +kernel
theorem dL_law_620 : decode cL_law 620 = .ok (.aload_n 0, 1) := by decide +kernel
theorem dL_law_621 : decode cL_law 621 = .ok (.iload_n 3, 1) := by decide +kernel
theorem dL_law_622 : decode cL_law 622 = .ok (.iconst 1, 1) := by decide +kernel
theorem dL_law_623 : decode cL_law 623 = .ok (.iadd, 1) := by decide +kernel
theorem dL_law_624 : decode cL_law 624 = .ok (.iaload, 1) := by decide +kernel
theorem dL_law_625 : decode cL_law 625 = .ok (.aload_n 0, 1) := by decide +kernel
theorem dL_law_626 : decode cL_law 626 = .ok (.iload_n 3, 1) := by decide +kernel
theorem dL_law_627 : decode cL_law 627 = .ok (.iconst 2, 1) := by decide +kernel
theorem dL_law_628 : decode cL_law 628 = .ok (.iadd, 1) := by decide +kernel
theorem dL_law_629 : decode cL_law 629 = .ok (.iaload, 1) := by decide +kernel
theorem dL_law_630 : decode cL_law 630 = .ok (.aload_n 0, 1) := by decide +kernel
theorem dL_law_631 : decode cL_law 631 = .ok (.iload_n 3, 1) := by decide +kernel
theorem dL_law_632 : decode cL_law 632 = .ok (.iconst 3, 1) := by decide +kernel
theorem dL_law_633 : decode cL_law 633 = .ok (.iadd, 1) := by decide +kernel
theorem dL_law_634 : decode cL_law 634 = .ok (.iaload, 1) := by decide +kernel
theorem dL_law_635 : decode cL_law 635 = .ok (.aload_n 0, 1) := by decide +kernel
theorem dL_law_636 : decode cL_law 636 = .ok (.iload_n 3, 1) := by decide +kernel
theorem dL_law_637 : decode cL_law 637 = .ok (.iconst 4, 1) := by decide +kernel
theorem dL_law_638 : decode cL_law 638 = .ok (.iadd, 1) := by decide +kernel
theorem dL_law_639 : decode cL_law 639 = .ok (.iaload, 1) := by decide +kernel
theorem dL_law_640 : decode cL_law 640 = .ok (.aload_n 0, 1) := by decide +kernel
theorem dL_law_641 : decode cL_law 641 = .ok (.iload_n 3, 1) := by decide +kernel
theorem dL_law_642 : decode cL_law 642 = .ok (.iconst 5, 1) := by decide +kernel
theorem dL_law_643 : decode cL_law 643 = .ok (.iadd, 1) := by decide +kernel
theorem dL_law_644 : decode cL_law 644 = .ok (.iaload, 1) := by decide +kernel
theorem dL_law_645 : decode cL_law 645 = .ok (.invokevirtual 77, 3) := by decide +kernel
theorem dL_law_648 : decode cL_law 648 = .ok (.aload_n 2, 1) := by decide +kernel
theorem dL_law_649 : decode cL_law 649 = .ok (.aload_n 0, 1) := by decide +kernel
theorem dL_law_650 : decode cL_law 650 = .ok (.iload_n 3, 1) := by decide +kernel
theorem dL_law_651 : decode cL_law 651 = .ok (.iconst 1, 1) := by decide +kernel
theorem dL_law_652 : decode cL_law 652 = .ok (.iadd, 1) := by decide +kernel
theorem dL_law_653 : decode cL_law 653 = .ok (.iaload, 1) := by decide +kernel
theorem dL_law_654 : decode cL_law 654 = .ok (.aload_n 0, 1) := by decide +kernel
theorem dL_law_655 : decode cL_law 655 = .ok (.iload_n 3, 1) := by decide +kernel
theorem dL_law_656 : decode cL_law 656 = .ok (.iconst 2, 1) := by decide +kernel
theorem dL_law_657 : decode cL_law 657 = .ok (.iadd, 1) := by decide +kernel
theorem dL_law_658 : decode cL_law 658 = .ok (.iaload, 1) := by decide +kernel
theorem dL_law_659 : decode cL_law 659 = .ok (.aload_n 0, 1) := by decide +kernel
theorem dL_law_660 : decode cL_law 660 = .ok (.iload_n 3, 1) := by decide +kernel
theorem dL_law_661 : decode cL_law 661 = .ok (.iconst 3, 1) := by decide +kernel
theorem dL_law_662 : decode cL_law 662 = .ok (.iadd, 1) := by decide +kernel
theorem dL_law_663 : decode cL_law 663 = .ok (.iaload, 1) := by decide +kernel
theorem dL_law_664 : decode cL_law 664 = .ok (.aload_n 0, 1) := by decide +kernel
theorem dL_law_665 : decode cL_law 665 = .ok (.iload_n 3, 1) := by decide +kernel
theorem dL_law_666 : decode cL_law 666 = .ok (.iconst 4, 1) := by decide +kernel
theorem dL_law_667 : decode cL_law 667 = .ok (.iadd, 1) := by decide +kernel
theorem dL_law_668 : decode cL_law 668 = .ok (.iaload, 1) := by decide +kernel
theorem dL_law_669 : decode cL_law 669 = .ok (.aload_n 0, 1) := by decide +kernel
theorem dL_law_670 : decode cL_law 670 = .ok (.iload_n 3, 1) := by decide +kernel
theorem dL_law_671 : decode cL_law 671 = .ok (.iconst 5, 1) := by decide +kernel
theorem dL_law_672 : decode cL_law 672 = .ok (.iadd, 1) := by decide +kernel
theorem dL_law_673 : decode cL_law 673 = .ok (.iaload, 1) := by decide +kernel
theorem dL_law_674 : decode cL_law 674 = .ok (.invokevirtual 81, 3) := by decide +kernel
theorem dL_law_677 : decode cL_law 677 = .ok (.if_icmp .eq 405, 3) := by decide +kernel
theorem dL_law_680 : decode cL_law 680 = .ok (.iconst 0, 1) := by decide +kernel
theorem dL_law_681 : decode cL_law 681 = .ok (.ireturn, 1) := by decide +kernel
theorem dL_law_682 : decode cL_law 682 = .ok (.aload_n 1, 1) := by decide +kernel
theorem dL_law_683 : decode cL_law 683 = .ok (.aload_n 0, 1) := by decide +kernel
theorem dL_law_684 : decode cL_law 684 = .ok (.iload_n 3, 1) := by decide +kernel
theorem dL_law_685 : decode cL_law 685 = .ok (.iconst 1, 1) := by decide +kernel
theorem dL_law_686 : decode cL_law 686 = .ok (.iadd, 1) := by decide +kernel
theorem dL_law_687 : decode cL_law 687 = .ok (.iaload, 1) := by decide +kernel
theorem dL_law_688 : decode cL_law 688 = .ok (.aload_n 0, 1) := by decide +kernel
theorem dL_law_689 : decode cL_law 689 = .ok (.iload_n 3, 1) := by decide +kernel
theorem dL_law_690 : decode cL_law 690 = .ok (.iconst 2, 1) := by decide +kernel
theorem dL_law_691 : decode cL_law 691 = .ok (.iadd, 1) := by decide +kernel
theorem dL_law_692 : decode cL_law 692 = .ok (.iaload, 1) := by decide +kernel
theorem dL_law_693 : decode cL_law 693 = .ok (.aload_n 0, 1) := by decide +kernel
theorem dL_law_694 : decode cL_law 694 = .ok (.iload_n 3, 1) := by decide +kernel
theorem dL_law_695 : decode cL_law 695 = .ok (.iconst 3, 1) := by decide +kernel
theorem dL_law_696 : decode cL_law 696 = .ok (.iadd, 1) := by decide +kernel
theorem dL_law_697 : decode cL_law 697 = .ok (.iaload, 1) := by decide +kernel
theorem dL_law_698 : decode cL_law 698 = .ok (.aload_n 0, 1) := by decide +kernel
theorem dL_law_699 : decode cL_law 699 = .ok (.iload_n 3, 1) := by decide +kernel
theorem dL_law_700 : decode cL_law 700 = .ok (.iconst 4, 1) := by decide +kernel
theorem dL_law_701 : decode cL_law 701 = .ok (.iadd, 1) := by decide +kernel
theorem dL_law_702 : decode cL_law 702 = .ok (.iaload, 1) := by decide +kernel
theorem dL_law_703 : decode cL_law 703 = .ok (.aload_n 0, 1) := by decide +kernel
theorem dL_law_704 : decode cL_law 704 = .ok (.iload_n 3, 1) := by decide +kernel
theorem dL_law_705 : decode cL_law 705 = .ok (.iconst 5, 1) := by decide +kernel
theorem dL_law_706 : decode cL_law 706 = .ok (.iadd, 1) := by decide +kernel
theorem dL_law_707 : decode cL_law 707 = .ok (.iaload, 1) := by decide +kernel
theorem dL_law_708 : decode cL_law 708 = .ok (.invokevirtual 82, 3) := by decide +kernel
theorem dL_law_711 : decode cL_law 711 = .ok (.aload_n 2, 1) := by decide +kernel
theorem dL_law_712 : decode cL_law 712 = .ok (.aload_n 0, 1) := by decide +kernel
theorem dL_law_713 : decode cL_law 713 = .ok (.iload_n 3, 1) := by decide +kernel
theorem dL_law_714 : decode cL_law 714 = .ok (.iconst 1, 1) := by decide +kernel
theorem dL_law_715 : decode cL_law 715 = .ok (.iadd, 1) := by decide +kernel
theorem dL_law_716 : decode cL_law 716 = .ok (.iaload, 1) := by decide +kernel
theorem dL_law_717 : decode cL_law 717 = .ok (.aload_n 0, 1) := by decide +kernel
theorem dL_law_718 : decode cL_law 718 = .ok (.iload_n 3, 1) := by decide +kernel
theorem dL_law_719 : decode cL_law 719 = .ok (.iconst 2, 1) := by decide +kernel
theorem dL_law_720 : decode cL_law 720 = .ok (.iadd, 1) := by decide +kernel
theorem dL_law_721 : decode cL_law 721 = .ok (.iaload, 1) := by decide +kernel
theorem dL_law_722 : decode cL_law 722 = .ok (.aload_n 0, 1) := by decide +kernel
theorem dL_law_723 : decode cL_law 723 = .ok (.iload_n 3, 1) := by decide +kernel
theorem dL_law_724 : decode cL_law 724 = .ok (.iconst 3, 1) := by decide +kernel
theorem dL_law_725 : decode cL_law 725 = .ok (.iadd, 1) := by decide +kernel
theorem dL_law_726 : decode cL_law 726 = .ok (.iaload, 1) := by decide +kernel
theorem dL_law_727 : decode cL_law 727 = .ok (.aload_n 0, 1) := by decide +kernel
theorem dL_law_728 : decode cL_law 728 = .ok (.iload_n 3, 1) := by decide +kernel
theorem dL_law_729 : decode cL_law 729 = .ok (.iconst 4, 1) := by decide +kernel
theorem dL_law_730 : decode cL_law 730 = .ok (.iadd, 1) := by decide +kernel
theorem dL_law_731 : decode cL_law 731 = .ok (.iaload, 1) := by decide +kernel
theorem dL_law_732 : decode cL_law 732 = .ok (.aload_n 0, 1) := by decide +kernel
theorem dL_law_733 : decode cL_law 733 = .ok (.iload_n 3, 1) := by decide +kernel
theorem dL_law_734 : decode cL_law 734 = .ok (.iconst 5, 1) := by decide +kernel
theorem dL_law_735 : decode cL_law 735 = .ok (.iadd, 1) := by decide +kernel
theorem dL_law_736 : decode cL_law 736 = .ok (.iaload, 1) := by decide +kernel
theorem dL_law_737 : decode cL_law 737 = .ok (.invokevirtual 85, 3) := by decide +kernel
theorem dL_law_740 : decode cL_law 740 = .ok (.if_icmp .eq 342, 3) := by decide +kernel
theorem dL_law_743 : decode cL_law 743 = .ok (.iconst 0, 1) := by decide +kernel
theorem dL_law_744 : decode cL_law 744 = .ok (.ireturn, 1) := by decide +kernel
theorem dL_law_745 : decode cL_law 745 = .ok (.aload_n 1, 1) := by decide +kernel
theorem dL_law_746 : decode cL_law 746 = .ok (.aload_n 0, 1) := by decide +kernel
theorem dL_law_747 : decode cL_law 747 = .ok (.iload_n 3, 1) := by decide +kernel
theorem dL_law_748 : decode cL_law 748 = .ok (.iconst 1, 1) := by decide +kernel
theorem dL_law_749 : decode cL_law 749 = .ok (.iadd, 1) := by decide +kernel
theorem dL_law_750 : decode cL_law 750 = .ok (.iaload, 1) := by decide +kernel
theorem dL_law_751 : decode cL_law 751 = .ok (.invokevirtual 86, 3) := by decide +kernel
theorem dL_law_754 : decode cL_law 754 = .ok (.aload_n 2, 1) := by decide +kernel
theorem dL_law_755 : decode cL_law 755 = .ok (.aload_n 0, 1) := by decide +kernel
theorem dL_law_756 : decode cL_law 756 = .ok (.iload_n 3, 1) := by decide +kernel
theorem dL_law_757 : decode cL_law 757 = .ok (.iconst 1, 1) := by decide +kernel
theorem dL_law_758 : decode cL_law 758 = .ok (.iadd, 1) := by decide +kernel
theorem dL_law_759 : decode cL_law 759 = .ok (.iaload, 1) := by decide +kernel
theorem dL_law_760 : decode cL_law 760 = .ok (.invokevirtual 89, 3) := by decide +kernel
theorem dL_law_763 : decode cL_law 763 = .ok (.if_icmp .eq 319, 3) := by decide +kernel
theorem dL_law_766 : decode cL_law 766 = .ok (.iconst 0, 1) := by decide +kernel
theorem dL_law_767 : decode cL_law 767 = .ok (.ireturn, 1) := by decide +kernel
theorem dL_law_768 : decode cL_law 768 = .ok (.aload_n 1, 1) := by decide +kernel
theorem dL_law_769 : decode cL_law 769 = .ok (.aload_n 0, 1) := by decide +kernel
theorem dL_law_770 : decode cL_law 770 = .ok (.iload_n 3, 1) := by decide +kernel
theorem dL_law_771 : decode cL_law 771 = .ok (.iconst 1, 1) := by decide +kernel
theorem dL_law_772 : decode cL_law 772 = .ok (.iadd, 1) := by decide +kernel
theorem dL_law_773 : decode cL_law 773 = .ok (.iaload, 1) := by decide +kernel
theorem dL_law_774 : decode cL_law 774 = .ok (.aload_n 0, 1) := by decide +kernel
theorem dL_law_775 : decode cL_law 775 = .ok (.iload_n 3, 1) := by decide +kernel
theorem dL_law_776 : decode cL_law 776 = .ok (.iconst 2, 1) := by decide +kernel
theorem dL_law_777 : decode cL_law 777 = .ok (.iadd, 1) := by decide +kernel
theorem dL_law_778 : decode cL_law 778 = .ok (.iaload, 1) := by decide +kernel
theorem dL_law_779 : decode cL_law 779 = .ok (.aload_n 0, 1) := by decide +kernel
theorem dL_law_780 : decode cL_law 780 = .ok (.iload_n 3, 1) := by decide +kernel
theorem dL_law_781 : decode cL_law 781 = .ok (.iconst 3, 1) := by decide +kernel
theorem dL_law_782 : decode cL_law 782 = .ok (.iadd, 1) := by decide +kernel
theorem dL_law_783 : decode cL_law 783 = .ok (.iaload, 1) := by decide +kernel
theorem dL_law_784 : decode cL_law 784 = .ok (.aload_n 0, 1) := by decide +kernel
theorem dL_law_785 : decode cL_law 785 = .ok (.iload_n 3, 1) := by decide +kernel
theorem dL_law_786 : decode cL_law 786 = .ok (.iconst 4, 1) := by decide +kernel
theorem dL_law_787 : decode cL_law 787 = .ok (.iadd, 1) := by decide +kernel
theorem dL_law_788 : decode cL_law 788 = .ok (.iaload, 1) := by decide +kernel
theorem dL_law_789 : decode cL_law 789 = .ok (.aload_n 0, 1) := by decide +kernel
theorem dL_law_790 : decode cL_law 790 = .ok (.iload_n 3, 1) := by decide +kernel
theorem dL_law_791 : decode cL_law 791 = .ok (.iconst 5, 1) := by decide +kernel
theorem dL_law_792 : decode cL_law 792 = .ok (.iadd, 1) := by decide +kernel
theorem dL_law_793 : decode cL_law 793 = .ok (.iaload, 1) := by decide +kernel
theorem dL_law_794 : decode cL_law 794 = .ok (.invokevirtual 90, 3) := by decide +kernel
theorem dL_law_797 : decode cL_law 797 = .ok (.aload_n 2, 1) := by decide +kernel
theorem dL_law_798 : decode cL_law 798 = .ok (.aload_n 0, 1) := by decide +kernel
theorem dL_law_799 : decode cL_law 799 = .ok (.iload_n 3, 1) := by decide +kernel
theorem dL_law_800 : decode cL_law 800 = .ok (.iconst 1, 1) := by decide +kernel
theorem dL_law_801 : decode cL_law 801 = .ok (.iadd, 1) := by decide +kernel
theorem dL_law_802 : decode cL_law 802 = .ok (.iaload, 1) := by decide +kernel
theorem dL_law_803 : decode cL_law 803 = .ok (.aload_n 0, 1) := by decide +kernel
theorem dL_law_804 : decode cL_law 804 = .ok (.iload_n 3, 1) := by decide +kernel
theorem dL_law_805 : decode cL_law 805 = .ok (.iconst 2, 1) := by decide +kernel
theorem dL_law_806 : decode cL_law 806 = .ok (.iadd, 1) := by decide +kernel
theorem dL_law_807 : decode cL_law 807 = .ok (.iaload, 1) := by decide +kernel
theorem dL_law_808 : decode cL_law 808 = .ok (.aload_n 0, 1) := by decide +kernel
theorem dL_law_809 : decode cL_law 809 = .ok (.iload_n 3, 1) := by decide +kernel
theorem dL_law_810 : decode cL_law 810 = .ok (.iconst 3, 1) := by decide +kernel
theorem dL_law_811 : decode cL_law 811 = .ok (.iadd, 1) := by decide +kernel
theorem dL_law_812 : decode cL_law 812 = .ok (.iaload, 1) := by decide +kernel
theorem dL_law_813 : decode cL_law 813 = .ok (.aload_n 0, 1) := by decide +kernel
theorem dL_law_814 : decode cL_law 814 = .ok (.iload_n 3, 1) := by decide +kernel
theorem dL_law_815 : decode cL_law 815 = .ok (.iconst 4, 1) := by decide +kernel
theorem dL_law_816 : decode cL_law 816 = .ok (.iadd, 1) := by decide +kernel
theorem dL_law_817 : decode cL_law 817 = .ok (.iaload, 1) := by decide +kernel
theorem dL_law_818 : decode cL_law 818 = .ok (.aload_n 0, 1) := by decide +kernel
theorem dL_law_819 : decode cL_law 819 = .ok (.iload_n 3, 1) := by decide +kernel
theorem dL_law_820 : decode cL_law 820 = .ok (.iconst 5, 1) := by decide +kernel
theorem dL_law_821 : decode cL_law 821 = .ok (.iadd, 1) := by decide +kernel
theorem dL_law_822 : decode cL_law 822 = .ok (.iaload, 1) := by decide +kernel
theorem dL_law_823 : decode cL_law 823 = .ok (.invokevirtual 93, 3) := by decide +kernel
theorem dL_law_826 : decode cL_law 826 = .ok (.if_icmp .eq 256, 3) := by decide +kernel
theorem dL_law_829 : decode cL_law 829 = .ok (.iconst 0, 1) := by decide +kernel
theorem dL_law_830 : decode cL_law 830 = .ok (.ireturn, 1) := by decide +kernel
theorem dL_law_831 : decode cL_law 831 = .ok (.aload_n 1, 1) := by decide +kernel
theorem dL_law_832 : decode cL_law 832 = .ok (.aload_n 0, 1) := by decide +kernel
theorem dL_law_833 : decode cL_law 833 = .ok (.iload_n 3, 1) := by decide +kernel
theorem dL_law_834 : decode cL_law 834 = .ok (.iconst 1, 1) := by decide +kernel
theorem dL_law_835 : decode cL_law 835 = .ok (.iadd, 1) := by decide +kernel
theorem dL_law_836 : decode cL_law 836 = .ok (.iaload, 1) := by decide +kernel
theorem dL_law_837 : decode cL_law 837 = .ok (.aload_n 0, 1) := by decide +kernel
theorem dL_law_838 : decode cL_law 838 = .ok (.iload_n 3, 1) := by decide +kernel
theorem dL_law_839 : decode cL_law 839 = .ok (.iconst 2, 1) := by decide +kernel
theorem dL_law_840 : decode cL_law 840 = .ok (.iadd, 1) := by decide +kernel
theorem dL_law_841 : decode cL_law 841 = .ok (.iaload, 1) := by decide +kernel
theorem dL_law_842 : decode cL_law 842 = .ok (.aload_n 0, 1) := by decide +kernel
theorem dL_law_843 : decode cL_law 843 = .ok (.iload_n 3, 1) := by decide +kernel
theorem dL_law_844 : decode cL_law 844 = .ok (.iconst 3, 1) := by decide +kernel
theorem dL_law_845 : decode cL_law 845 = .ok (.iadd, 1) := by decide +kernel
theorem dL_law_846 : decode cL_law 846 = .ok (.iaload, 1) := by decide +kernel
theorem dL_law_847 : decode cL_law 847 = .ok (.aload_n 0, 1) := by decide +kernel
theorem dL_law_848 : decode cL_law 848 = .ok (.iload_n 3, 1) := by decide +kernel
theorem dL_law_849 : decode cL_law 849 = .ok (.iconst 4, 1) := by decide +kernel
theorem dL_law_850 : decode cL_law 850 = .ok (.iadd, 1) := by decide +kernel
theorem dL_law_851 : decode cL_law 851 = .ok (.iaload, 1) := by decide +kernel
theorem dL_law_852 : decode cL_law 852 = .ok (.invokevirtual 94, 3) := by decide +kernel
theorem dL_law_855 : decode cL_law 855 = .ok (.aload_n 2, 1) := by decide +kernel
theorem dL_law_856 : decode cL_law 856 = .ok (.aload_n 0, 1) := by decide +kernel
theorem dL_law_857 : decode cL_law 857 = .ok (.iload_n 3, 1) := by decide +kernel
theorem dL_law_858 : decode cL_law 858 = .ok (.iconst 1, 1) := by decide +kernel
theorem dL_law_859 : decode cL_law 859 = .ok (.iadd, 1) := by decide +kernel
theorem dL_law_860 : decode cL_law 860 = .ok (.iaload, 1) := by decide +kernel
theorem dL_law_861 : decode cL_law 861 = .ok (.aload_n 0, 1) := by decide +kernel
theorem dL_law_862 : decode cL_law 862 = .ok (.iload_n 3, 1) := by decide +kernel
theorem dL_law_863 : decode cL_law 863 = .ok (.iconst 2, 1) := by decide +kernel
theorem dL_law_864 : decode cL_law 864 = .ok (.iadd, 1) := by decide +kernel
theorem dL_law_865 : decode cL_law 865 = .ok (.iaload, 1) := by decide +kernel
theorem dL_law_866 : decode cL_law 866 = .ok (.aload_n 0, 1) := by decide +kernel
theorem dL_law_867 : decode cL_law 867 = .ok (.iload_n 3, 1) := by decide +kernel
theorem dL_law_868 : decode cL_law 868 = .ok (.iconst 3, 1) := by decide +kernel
theorem dL_law_869 : decode cL_law 869 = .ok (.iadd, 1) := by decide +kernel
theorem dL_law_870 : decode cL_law 870 = .ok (.iaload, 1) := by decide +kernel
theorem dL_law_871 : decode cL_law 871 = .ok (.aload_n 0, 1) := by decide +kernel
theorem dL_law_872 : decode cL_law 872 = .ok (.iload_n 3, 1) := by decide +kernel
theorem dL_law_873 : decode cL_law 873 = .ok (.iconst 4, 1) := by decide +kernel
theorem dL_law_874 : decode cL_law 874 = .ok (.iadd, 1) := by decide +kernel
theorem dL_law_875 : decode cL_law 875 = .ok (.iaload, 1) := by decide +kernel
theorem dL_law_876 : decode cL_law 876 = .ok (.invokevirtual 98, 3) := by decide +kernel
theorem dL_law_879 : decode cL_law 879 = .ok (.if_icmp .eq 203, 3) := by decide +kernel
theorem dL_law_882 : decode cL_law 882 = .ok (.iconst 0, 1) := by decide +kernel
theorem dL_law_883 : decode cL_law 883 = .ok (.ireturn, 1) := by decide +kernel
theorem dL_law_884 : decode cL_law 884 = .ok (.aload_n 1, 1) := by decide +kernel
theorem dL_law_885 : decode cL_law 885 = .ok (.invokevirtual 99, 3) := by decide +kernel
theorem dL_law_888 : decode cL_law 888 = .ok (.aload_n 2, 1) := by decide +kernel
theorem dL_law_889 : decode cL_law 889 = .ok (.invokevirtual 102, 3) := by decide +kernel
theorem dL_law_892 : decode cL_law 892 = .ok (.if_icmp .eq 190, 3) := by decide +kernel
theorem dL_law_895 : decode cL_law 895 = .ok (.iconst 0, 1) := by decide +kernel
theorem dL_law_896 : decode cL_law 896 = .ok (.ireturn, 1) := by decide +kernel
theorem dL_law_897 : decode cL_law 897 = .ok (.aload_n 1, 1) := by decide +kernel
theorem dL_law_898 : decode cL_law 898 = .ok (.invokevirtual 103, 3) := by decide +kernel
theorem dL_law_901 : decode cL_law 901 = .ok (.aload_n 2, 1) := by decide +kernel
theorem dL_law_902 : decode cL_law 902 = .ok (.invokevirtual 106, 3) := by decide +kernel
theorem dL_law_905 : decode cL_law 905 = .ok (.if_icmp .eq 177, 3) := by decide +kernel
theorem dL_law_908 : decode cL_law 908 = .ok (.iconst 0, 1) := by decide +kernel
theorem dL_law_909 : decode cL_law 909 = .ok (.ireturn, 1) := by decide +kernel
theorem dL_law_910 : decode cL_law 910 = .ok (.aload_n 1, 1) := by decide +kernel
theorem dL_law_911 : decode cL_law 911 = .ok (.aload_n 0, 1) := by decide +kernel
theorem dL_law_912 : decode cL_law 912 = .ok (.iload_n 3, 1) := by decide +kernel
theorem dL_law_913 : decode cL_law 913 = .ok (.iconst 1, 1) := by decide +kernel
theorem dL_law_914 : decode cL_law 914 = .ok (.iadd, 1) := by decide +kernel
theorem dL_law_915 : decode cL_law 915 = .ok (.iaload, 1) := by decide +kernel
theorem dL_law_916 : decode cL_law 916 = .ok (.aload_n 0, 1) := by decide +kernel
theorem dL_law_917 : decode cL_law 917 = .ok (.iload_n 3, 1) := by decide +kernel
theorem dL_law_918 : decode cL_law 918 = .ok (.iconst 2, 1) := by decide +kernel
theorem dL_law_919 : decode cL_law 919 = .ok (.iadd, 1) := by decide +kernel
theorem dL_law_920 : decode cL_law 920 = .ok (.iaload, 1) := by decide +kernel
theorem dL_law_921 : decode cL_law 921 = .ok (.invokevirtual 107, 3) := by decide +kernel
theorem dL_law_924 : decode cL_law 924 = .ok (.aload_n 2, 1) := by decide +kernel
theorem dL_law_925 : decode cL_law 925 = .ok (.aload_n 0, 1) := by decide +kernel
theorem dL_law_926 : decode cL_law 926 = .ok (.iload_n 3, 1) := by decide +kernel
theorem dL_law_927 : decode cL_law 927 = .ok (.iconst 1, 1) := by decide +kernel
theorem dL_law_928 : decode cL_law 928 = .ok (.iadd, 1) := by decide +kernel
theorem dL_law_929 : decode cL_law 929 = .ok (.iaload, 1) := by decide +kernel
theorem dL_law_930 : decode cL_law 930 = .ok (.aload_n 0, 1) := by decide +kernel
theorem dL_law_931 : decode cL_law 931 = .ok (.iload_n 3, 1) := by decide +kernel
theorem dL_law_932 : decode cL_law 932 = .ok (.iconst 2, 1) := by decide +kernel
theorem dL_law_933 : decode cL_law 933 = .ok (.iadd, 1) := by decide +kernel
theorem dL_law_934 : decode cL_law 934 = .ok (.iaload, 1) := by decide +kernel
theorem dL_law_935 : decode cL_law 935 = .ok (.invokevirtual 110, 3) := by decide +kernel
theorem dL_law_938 : decode cL_law 938 = .ok (.if_icmp .eq 144, 3) := by decide +kernel
theorem dL_law_941 : decode cL_law 941 = .ok (.iconst 0, 1) := by decide +kernel
theorem dL_law_942 : decode cL_law 942 = .ok (.ireturn, 1) := by decide +kernel
theorem dL_law_943 : decode cL_law 943 = .ok (.aload_n 1, 1) := by decide +kernel
theorem dL_law_944 : decode cL_law 944 = .ok (.invokevirtual 111, 3) := by decide +kernel
theorem dL_law_947 : decode cL_law 947 = .ok (.aload_n 2, 1) := by decide +kernel
theorem dL_law_948 : decode cL_law 948 = .ok (.invokevirtual 114, 3) := by decide +kernel
theorem dL_law_951 : decode cL_law 951 = .ok (.if_icmp .eq 131, 3) := by decide +kernel
theorem dL_law_954 : decode cL_law 954 = .ok (.iconst 0, 1) := by decide +kernel
theorem dL_law_955 : decode cL_law 955 = .ok (.ireturn, 1) := by decide +kernel
theorem dL_law_956 : decode cL_law 956 = .ok (.aload_n 1, 1) := by decide +kernel
theorem dL_law_957 : decode cL_law 957 = .ok (.aload_n 0, 1) := by decide +kernel
theorem dL_law_958 : decode cL_law 958 = .ok (.iload_n 3, 1) := by decide +kernel
theorem dL_law_959 : decode cL_law 959 = .ok (.iconst 1, 1) := by decide +kernel
theorem dL_law_960 : decode cL_law 960 = .ok (.iadd, 1) := by decide +kernel
theorem dL_law_961 : decode cL_law 961 = .ok (.iaload, 1) := by decide +kernel
theorem dL_law_962 : decode cL_law 962 = .ok (.aload_n 0, 1) := by decide +kernel
theorem dL_law_963 : decode cL_law 963 = .ok (.iload_n 3, 1) := by decide +kernel
theorem dL_law_964 : decode cL_law 964 = .ok (.iconst 2, 1) := by decide +kernel
theorem dL_law_965 : decode cL_law 965 = .ok (.iadd, 1) := by decide +kernel
theorem dL_law_966 : decode cL_law 966 = .ok (.iaload, 1) := by decide +kernel
theorem dL_law_967 : decode cL_law 967 = .ok (.aload_n 0, 1) := by decide +kernel
theorem dL_law_968 : decode cL_law 968 = .ok (.iload_n 3, 1) := by decide +kernel
theorem dL_law_969 : decode cL_law 969 = .ok (.iconst 3, 1) := by decide +kernel
theorem dL_law_970 : decode cL_law 970 = .ok (.iadd, 1) := by decide +kernel
theorem dL_law_971 : decode cL_law 971 = .ok (.iaload, 1) := by decide +kernel
theorem dL_law_972 : decode cL_law 972 = .ok (.invokevirtual 115, 3) := by decide +kernel
theorem dL_law_975 : decode cL_law 975 = .ok (.aload_n 2, 1) := by decide +kernel
theorem dL_law_976 : decode cL_law 976 = .ok (.aload_n 0, 1) := by decide +kernel
theorem dL_law_977 : decode cL_law 977 = .ok (.iload_n 3, 1) := by decide +kernel
theorem dL_law_978 : decode cL_law 978 = .ok (.iconst 1, 1) := by decide +kernel
theorem dL_law_979 : decode cL_law 979 = .ok (.iadd, 1) := by decide +kernel
theorem dL_law_980 : decode cL_law 980 = .ok (.iaload, 1) := by decide +kernel
theorem dL_law_981 : decode cL_law 981 = .ok (.aload_n 0, 1) := by decide +kernel
theorem dL_law_982 : decode cL_law 982 = .ok (.iload_n 3, 1) := by decide +kernel
theorem dL_law_983 : decode cL_law 983 = .ok (.iconst 2, 1) := by decide +kernel
theorem dL_law_984 : decode cL_law 984 = .ok (.iadd, 1) := by decide +kernel
theorem dL_law_985 : decode cL_law 985 = .ok (.iaload, 1) := by decide +kernel
theorem dL_law_986 : decode cL_law 986 = .ok (.aload_n 0, 1) := by decide +kernel
theorem dL_law_987 : decode cL_law 987 = .ok (.iload_n 3, 1) := by decide +kernel
theorem dL_law_988 : decode cL_law 988 = .ok (.iconst 3, 1) := by decide +kernel
theorem dL_law_989 : decode cL_law 989 = .ok (.iadd, 1) := by decide +kernel
theorem dL_law_990 : decode cL_law 990 = .ok (.iaload, 1) := by decide +kernel
theorem dL_law_991 : decode cL_law 991 = .ok (.invokevirtual 118, 3) := by decide +kernel
theorem dL_law_994 : decode cL_law 994 = .ok (.if_icmp .eq 88, 3) := by decide +kernel
theorem dL_law_997 : decode cL_law 997 = .ok (.iconst 0, 1) := by decide +kernel
theorem dL_law_998 : decode cL_law 998 = .ok (.ireturn, 1) := by decide +kernel
theorem dL_law_999 : decode cL_law 999 = .ok (.aload_n 1, 1) := by decide +kernel
theorem dL_law_1000 : decode cL_law 1000 = .ok (.aload_n 0, 1) := by decide +kernel
theorem dL_law_1001 : decode cL_law 1001 = .ok (.iload_n 3, 1) := by decide +kernel
theorem dL_law_1002 : decode cL_law 1002 = .ok (.iconst 1, 1) := by decide +kernel
theorem dL_law_1003 : decode cL_law 1003 = .ok (.iadd, 1) := by decide +kernel
theorem dL_law_1004 : decode cL_law 1004 = .ok (.iaload, 1) := by decide +kernel
theorem dL_law_1005 : decode cL_law 1005 = .ok (.invokevirtual 119, 3) := by decide +kernel
theorem dL_law_1008 : decode cL_law 1008 = .ok (.aload_n 2, 1) := by decide +kernel
theorem dL_law_1009 : decode cL_law 1009 = .ok (.aload_n 0, 1) := by decide +kernel
theorem dL_law_1010 : decode cL_law 1010 = .ok (.iload_n 3, 1) := by decide +kernel
theorem dL_law_1011 : decode cL_law 1011 = .ok (.iconst 1, 1) := by decide +kernel
theorem dL_law_1012 : decode cL_law 1012 = .ok (.iadd, 1) := by decide +kernel
theorem dL_law_1013 : decode cL_law 1013 = .ok (.iaload, 1) := by decide +kernel
theorem dL_law_1014 : decode cL_law 1014 = .ok (.invokevirtual 122, 3) := by decide +kernel
theorem dL_law_1017 : decode cL_law 1017 = .ok (.if_icmp .eq 65, 3) := by decide +kernel
theorem dL_law_1020 : decode cL_law 1020 = .ok (.iconst 0, 1) := by decide +kernel
theorem dL_law_1021 : decode cL_law 1021 = .ok (.ireturn, 1) := by decide +kernel
theorem dL_law_1022 : decode cL_law 1022 = .ok (.aload_n 1, 1) := by decide +kernel
theorem dL_law_1023 : decode cL_law 1023 = .ok (.aload_n 0, 1) := by decide +kernel
theorem dL_law_1024 : decode cL_law 1024 = .ok (.iload_n 3, 1) := by decide +kernel
theorem dL_law_1025 : decode cL_law 1025 = .ok (.iconst 1, 1) := by decide +kernel
theorem dL_law_1026 : decode cL_law 1026 = .ok (.iadd, 1) := by decide +kernel
theorem dL_law_1027 : decode cL_law 1027 = .ok (.iaload, 1) := by decide +kernel
theorem dL_law_1028 : decode cL_law 1028 = .ok (.invokevirtual 123, 3) := by decide +kernel
theorem dL_law_1031 : decode cL_law 1031 = .ok (.aload_n 2, 1) := by decide +kernel
theorem dL_law_1032 : decode cL_law 1032 = .ok (.aload_n 0, 1) := by decide +kernel
theorem dL_law_1033 : decode cL_law 1033 = .ok (.iload_n 3, 1) := by decide +kernel
theorem dL_law_1034 : decode cL_law 1034 = .ok (.iconst 1, 1) := by decide +kernel
theorem dL_law_1035 : decode cL_law 1035 = .ok (.iadd, 1) := by decide +kernel
theorem dL_law_1036 : decode cL_law 1036 = .ok (.iaload, 1) := by decide +kernel
theorem dL_law_1037 : decode cL_law 1037 = .ok (.invokevirtual 126, 3) := by decide +kernel
theorem dL_law_1040 : decode cL_law 1040 = .ok (.if_icmp .eq 42, 3) := by decide +kernel
theorem dL_law_1043 : decode cL_law 1043 = .ok (.iconst 0, 1) := by decide +kernel
theorem dL_law_1044 : decode cL_law 1044 = .ok (.ireturn, 1) := by decide +kernel
theorem dL_law_1045 : decode cL_law 1045 = .ok (.aload_n 1, 1) := by decide +kernel
theorem dL_law_1046 : decode cL_law 1046 = .ok (.aload_n 0, 1) := by decide +kernel
theorem dL_law_1047 : decode cL_law 1047 = .ok (.iload_n 3, 1) := by decide +kernel
theorem dL_law_1048 : decode cL_law 1048 = .ok (.iconst 1, 1) := by decide +kernel
theorem dL_law_1049 : decode cL_law 1049 = .ok (.iadd, 1) := by decide +kernel
theorem dL_law_1050 : decode cL_law 1050 = .ok (.iaload, 1) := by decide +kernel
theorem dL_law_1051 : decode cL_law 1051 = .ok (.invokevirtual 127, 3) := by decide +kernel
theorem dL_law_1054 : decode cL_law 1054 = .ok (.aload_n 2, 1) := by decide +kernel
theorem dL_law_1055 : decode cL_law 1055 = .ok (.aload_n 0, 1) := by decide +kernel
theorem dL_law_1056 : decode cL_law 1056 = .ok (.iload_n 3, 1) := by decide +kernel
theorem dL_law_1057 : decode cL_law 1057 = .ok (.iconst 1, 1) := by decide +kernel
theorem dL_law_1058 : decode cL_law 1058 = .ok (.iadd, 1) := by decide +kernel
theorem dL_law_1059 : decode cL_law 1059 = .ok (.iaload, 1) := by decide +kernel
theorem dL_law_1060 : decode cL_law 1060 = .ok (.invokevirtual 130, 3) := by decide +kernel
theorem dL_law_1063 : decode cL_law 1063 = .ok (.if_icmp .eq 19, 3) := by decide +kernel
theorem dL_law_1066 : decode cL_law 1066 = .ok (.iconst 0, 1) := by decide +kernel
theorem dL_law_1067 : decode cL_law 1067 = .ok (.ireturn, 1) := by decide +kernel
theorem dL_law_1068 : decode cL_law 1068 = .ok (.aload_n 1, 1) := by decide +kernel
theorem dL_law_1069 : decode cL_law 1069 = .ok (.invokevirtual 131, 3) := by decide +kernel
theorem dL_law_1072 : decode cL_law 1072 = .ok (.aload_n 2, 1) := by decide +kernel
theorem dL_law_1073 : decode cL_law 1073 = .ok (.invokevirtual 135, 3) := by decide +kernel
theorem dL_law_1076 : decode cL_law 1076 = .ok (.lcmp, 1) := by decide +kernel
theorem dL_law_1077 : decode cL_law 1077 = .ok (.ifCond .eq 5, 3) := by decide +kernel
theorem dL_law_1080 : decode cL_law 1080 = .ok (.iconst 0, 1) := by decide +kernel
theorem dL_law_1081 : decode cL_law 1081 = .ok (.ireturn, 1) := by decide +kernel
theorem dL_law_1082 : decode cL_law 1082 = .ok (.iinc 3 6, 3) := by decide +kernel
theorem dL_law_1085 : decode cL_law 1085 = .ok (.goto (-1067), 3) := by decide +kernel
theorem dL_law_1088 : decode cL_law 1088 = .ok (.iconst 1, 1) := by decide +kernel
theorem dL_law_1089 : decode cL_law 1089 = .ok (.ireturn, 1) := by decide +kernel
end
section
/-! THE CALCULUS, 1: coded values, one world of cells -/
def z_i (z : Int) : Int32 := Int32.ofInt z
def z_l (z : Int) : Int64 := Int64.ofInt z
def z_on (base : Nat) (z : Int) : Option Nat := if z < 0 then none else some (base + z.toNat)
def z_v (base : Nat) (c : Nat × Int) : Value := match c.1 with
  | 0 => .int (z_i c.2)
  | 1 => .long (z_l c.2)
  | _ => va_rf (z_on base c.2)
def z_tag : FieldType → Nat
  | .long => 1
  | .object _ => 2
  | .array _ => 2
  | _ => 0
def z_ty (ci : Nat) : Nat → FieldType := match ci with
  | 0 => tyX1
  | 1 => tyX2
  | 2 => tyX3
  | 3 => tyX4
  | 4 => tyX5
  | 5 => tyX6
  | 6 => tyX7
  | 7 => tyX8
  | 8 => tyX9
  | _ => tyX10
def z_nf (ci : Nat) : Nat := match ci with
  | 0 => 4
  | 1 => 4
  | 2 => 7
  | 3 => 8
  | 4 => 2
  | 5 => 3
  | 6 => 1
  | 7 => 3
  | 8 => 9
  | _ => 34
/-- the kinds of the cells in the order in which they are made: (0, c) an object, (1, n) ints, (2, n) booleans, (3, n) Moments, (4, n) Stories -/
def z_kt : List (List (Nat × Nat)) := [
  [(0, 8), (0, 3), (1, 170), (0, 4), (0, 5), (3, 11), (0, 1), (1, 20), (0, 1), (1, 20)],
  [(0, 1), (1, 20), (0, 1), (1, 20), (0, 1), (1, 20), (0, 1), (1, 20), (0, 1), (1, 20)],
  [(0, 1), (1, 20), (0, 1), (1, 20), (0, 1), (1, 20), (0, 1), (1, 20), (0, 2), (1, 20)],
  [(1, 256), (0, 0), (0, 6), (1, 756), (0, 7), (1, 6), (1, 6), (4, 2), (0, 2), (1, 20)],
  [(1, 256), (0, 5), (3, 11), (0, 1), (1, 20), (0, 1), (1, 20), (0, 1), (1, 20), (0, 1)],
  [(1, 20), (0, 1), (1, 20), (0, 1), (1, 20), (0, 1), (1, 20), (0, 1), (1, 20), (0, 1)],
  [(1, 20), (0, 1), (1, 20), (0, 1), (1, 20), (0, 5), (3, 11), (0, 1), (1, 20), (0, 1)],
  [(1, 20), (0, 1), (1, 20), (0, 1), (1, 20), (0, 1), (1, 20), (0, 1), (1, 20), (0, 1)],
  [(1, 20), (0, 1), (1, 20), (0, 1), (1, 20), (0, 1), (1, 20), (0, 1), (1, 20), (0, 9)],
  [(1, 20), (1, 8), (1, 11), (1, 11), (1, 110), (1, 22), (1, 220), (1, 2), (2, 2), (1, 24)],
  [(1, 170), (1, 20), (1, 8), (1, 20), (1, 20), (1, 756), (1, 8)]]
def z_kd (n : Nat) (k : Int) : Nat × Nat := if k < 0 then (9, 0) else if n ≤ k.toNat then (9, 0) else (z_kt.getD (k.toNat / 10) []).getD (k.toNat % 10) (9, 0)
def z_fs (base ci : Nat) (f : Int → Int) : List Value := (List.range (z_nf ci)).map fun j => z_v base (z_tag (z_ty ci j), f j)
def z_e (ca : Nat → ClassId) (base : Nat) (kd : Nat × Nat) (f : Int → Int) : va_E := match kd.1 with
  | 0 => .inr (kd.2, z_fs base kd.2 f)
  | 1 => .inl (ca 1, kd.2, .inl fun j => z_i (f j))
  | 2 => .inl (ca 2, kd.2, .inl fun j => z_i (f j))
  | 3 => .inl (ca 3, kd.2, .inr (.inr (.inr (.inr fun j => z_on base (f j)))))
  | _ => .inl (ca 4, kd.2, .inr (.inr (.inr (.inr fun j => z_on base (f j)))))
def z_w (ca : Nat → ClassId) (base n : Nat) (h : Int → Int → Int) : va_W := (List.range n).map fun k => (base + k, z_e ca base (z_kd n (k : Int)) (h (k : Int)))
/-- one place written -/
def z_st (h : Int → Int → Int) (k j v : Int) : Int → Int → Int := fun q r => if q = k then (if r = j then v else h k r) else h q r
def z_R (x : Int) : Prop := -2147483648 ≤ x ∧ x < 2147483648
theorem z_i_add (x y : Int) : z_i x + z_i y = z_i (x + y) := (Int32.ofInt_add x y).symm
theorem z_i_sub (x y : Int) : z_i x - z_i y = z_i (x - y) := (Int32.ofInt_sub x y).symm
theorem z_i_mul (x y : Int) : z_i x * z_i y = z_i (x * y) := (Int32.ofInt_mul x y).symm
theorem z_i_to {x : Int} (h : z_R x) : (z_i x).toInt = x := Int32.toInt_ofInt_of_le h.1 h.2
theorem z_i_of (x : Int32) : z_i x.toInt = x := Int32.ofInt_toInt x
theorem z_i_eq {x y : Int} (hx : z_R x) (hy : z_R y) : z_i x = z_i y ↔ x = y := by
  rw [← Int32.toInt_inj, z_i_to hx, z_i_to hy]
theorem z_i_lt {x y : Int} (hx : z_R x) (hy : z_R y) : z_i x < z_i y ↔ x < y := by
  rw [Int32.lt_iff_toInt_lt, z_i_to hx, z_i_to hy]
theorem z_i_le {x y : Int} (hx : z_R x) (hy : z_R y) : z_i x ≤ z_i y ↔ x ≤ y := by
  rw [Int32.le_iff_toInt_le, z_i_to hx, z_i_to hy]
theorem z_R0 : z_R 0 := ⟨by decide, by decide⟩
theorem z_i_0 : z_i 0 = 0 := rfl
theorem z_i_div {x y : Int} (hx : z_R x) (hy : z_R y) (h : y ≠ 0) (hm : y ≠ -1) : z_i x / z_i y = z_i (x.tdiv y) := by
  apply Int32.toInt_inj.mp
  have e1 : z_i y ≠ -1 := fun q => hm ((z_i_eq hy ⟨by decide, by decide⟩).mp (q.trans rfl))
  rw [Int32.toInt_div_of_ne_right _ _ e1, z_i_to hx, z_i_to hy, z_i_to]
  have h1 : (x.tdiv y).natAbs ≤ x.natAbs := by rw [Int.natAbs_tdiv]; exact Nat.div_le_self _ _
  have h3 : x = -2147483648 → 2 ≤ y.natAbs ∨ y = 1 := by intro; omega
  refine ⟨?_, ?_⟩
  · obtain ⟨a, b⟩ := hx; omega
  · obtain ⟨a, b⟩ := hx
    by_cases hz : x = -2147483648
    · rcases h3 hz with q | q
      · have : (x.tdiv y).natAbs ≤ x.natAbs / 2 := by
          rw [Int.natAbs_tdiv]; exact Nat.div_le_div_left q (by decide)
        omega
      · subst q; rw [Int.tdiv_one]; exact b
    · omega
theorem z_i_rem {x y : Int} (hx : z_R x) (hy : z_R y) (h : y ≠ 0) (hm : y ≠ -1) : z_i x - z_i x / z_i y * z_i y = z_i (x.tmod y) := by
  rw [z_i_div hx hy h hm, z_i_mul, z_i_sub]
  congr 1
  have := Int.tmod_add_mul_tdiv x y
  rw [Int.mul_comm]
  omega
theorem z_in {i : Int} {n : Nat} (h0 : 0 ≤ i) (h1 : i < n) (hn : n < 2147483648) : vp_in (z_i i) n ∧ (z_i i).toNatClampNeg = i.toNat ∧ ((i.toNat : Nat) : Int) = i := by
  have hr : z_R i := ⟨by omega, by omega⟩
  have e := z_i_to hr
  refine ⟨vp_in_iff.mpr (by rw [e]; exact ⟨h0, h1⟩), ?_, by omega⟩
  show (z_i i).toInt.toNat = i.toNat
  rw [e]
theorem z_v_ref {base : Nat} {k : Int} (hk : 0 ≤ k) : z_v base (2, k) = .ref (base + k.toNat) := by
  show va_rf (z_on base k) = _
  unfold z_on
  rw [if_neg (by omega)]
  rfl
theorem z_v_int (base : Nat) (k : Int) : z_v base (0, k) = .int (z_i k) := rfl
theorem z_v_long (base : Nat) (k : Int) : z_v base (1, k) = .long (z_l k) := rfl
theorem z_kd_spec {n : Nat} {k : Int} {kd : Nat × Nat} (hk : z_kd n k = kd) (h9 : kd.1 ≠ 9) : 0 ≤ k ∧ k.toNat < n ∧ ((k.toNat : Nat) : Int) = k := by
  unfold z_kd at hk
  by_cases h1 : k < 0
  · rw [if_pos h1] at hk; subst hk; exact absurd rfl h9
  · rw [if_neg h1] at hk
    by_cases h2 : n ≤ k.toNat
    · rw [if_pos h2] at hk; subst hk; exact absurd rfl h9
    · exact ⟨by omega, by omega, by omega⟩
theorem z_w_at {ca : Nat → ClassId} {base n : Nat} {h : Int → Int → Int} {k : Int} {kd : Nat × Nat} (hk : z_kd n k = kd) (h9 : kd.1 ≠ 9) : (z_w ca base n h)[k.toNat]? = some (base + k.toNat, z_e ca base kd (h k)) := by
  obtain ⟨h0, h1, h2⟩ := z_kd_spec hk h9
  unfold z_w
  rw [List.getElem?_map, List.getElem?_range h1]
  show some (base + k.toNat, z_e ca base (z_kd n ((k.toNat : Nat) : Int)) (h ((k.toNat : Nat) : Int))) = _
  rw [h2, hk]
theorem z_w_get {ca : Nat → ClassId} {base n : Nat} {h : Int → Int → Int} {k : Nat} {q : Nat × va_E} (hq : (z_w ca base n h)[k]? = some q) : k < n ∧ q = (base + k, z_e ca base (z_kd n (k : Int)) (h (k : Int))) := by
  unfold z_w at hq
  rw [List.getElem?_map] at hq
  by_cases hk : k < n
  · rw [List.getElem?_range hk] at hq
    exact ⟨hk, (Option.some.inj hq).symm⟩
  · rw [List.getElem?_eq_none (by simp; omega)] at hq
    cases hq
theorem z_D (ca : Nat → ClassId) (base n : Nat) (h : Int → Int → Int) : va_D (fun q => base ≤ q) (z_w ca base n h) := by
  refine ⟨fun i j p q hi hj e => ?_, fun k q hk => ?_⟩
  · obtain ⟨-, rfl⟩ := z_w_get hi
    obtain ⟨-, rfl⟩ := z_w_get hj
    exact Nat.add_left_cancel e
  · obtain ⟨-, rfl⟩ := z_w_get hk
    exact Nat.le_add_right _ _
theorem z_w_set {ca : Nat → ClassId} {base n : Nat} {h h' : Int → Int → Int} {k : Int} {kd : Nat × Nat} (hk : z_kd n k = kd) (h9 : kd.1 ≠ 9) {e : va_E} (he : z_e ca base kd (h' k) = e) (ho : ∀ q, q ≠ k → h' q = h q) : (z_w ca base n h).set k.toNat (base + k.toNat, e) = z_w ca base n h' := by
  obtain ⟨h0, h1, h2⟩ := z_kd_spec hk h9
  apply List.ext_getElem?
  intro i
  have hl : k.toNat < (z_w ca base n h).length := by unfold z_w; simp; exact h1
  by_cases hi : i = k.toNat
  · subst hi
    rw [List.getElem?_set_self hl, z_w_at hk h9, he]
  · rw [List.getElem?_set_ne (Ne.symm hi)]
    unfold z_w
    rw [List.getElem?_map, List.getElem?_map]
    by_cases hn : i < n
    · rw [List.getElem?_range hn]
      show some (base + i, z_e ca base (z_kd n (i : Int)) (h (i : Int))) = some (base + i, z_e ca base (z_kd n (i : Int)) (h' (i : Int)))
      rw [ho (i : Int) (by omega)]
    · rw [List.getElem?_eq_none (by simp; omega)]
      rfl
theorem z_fs_at {base ci j : Nat} {f : Int → Int} (hj : j < z_nf ci) : (z_fs base ci f)[j]? = some (z_v base (z_tag (z_ty ci j), f j)) := by
  unfold z_fs
  rw [List.getElem?_map, List.getElem?_range hj]
  rfl
theorem z_fs_len (base ci : Nat) (f : Int → Int) : (z_fs base ci f).length = z_nf ci := by unfold z_fs; simp
theorem z_fs_set {base ci j : Nat} {f g : Int → Int} {v : Int} (hj : j < z_nf ci) (h1 : g j = v) (h2 : ∀ r : Int, r ≠ j → g r = f r) : (z_fs base ci f).set j (z_v base (z_tag (z_ty ci j), v)) = z_fs base ci g := by
  apply List.ext_getElem?
  intro i
  by_cases hi : i = j
  · subst hi
    rw [List.getElem?_set_self (by rw [z_fs_len]; exact hj), z_fs_at hj, h1]
  · rw [List.getElem?_set_ne (Ne.symm hi)]
    unfold z_fs
    rw [List.getElem?_map, List.getElem?_map]
    by_cases hn : i < z_nf ci
    · rw [List.getElem?_range hn]
      show some (z_v base (z_tag (z_ty ci i), f i)) = some (z_v base (z_tag (z_ty ci i), g i))
      rw [h2 (i : Int) (by omega)]
    · rw [List.getElem?_eq_none (by simp; omega)]
      rfl
theorem z_st_at (h : Int → Int → Int) (k j v : Int) : z_st h k j v k j = v := by simp [z_st]
theorem z_st_ne (h : Int → Int → Int) {k j v q r : Int} (e : ¬ (q = k ∧ r = j)) : z_st h k j v q r = h q r := by
  unfold z_st
  by_cases h1 : q = k
  · subst h1
    rw [if_pos rfl, if_neg (fun q => e ⟨rfl, q⟩)]
  · rw [if_neg h1]
theorem z_st_cell (h : Int → Int → Int) {k j v q : Int} (e : q ≠ k) : z_st h k j v q = h q := by
  funext r
  exact z_st_ne h (fun x => e x.1)
theorem z_st_slot (h : Int → Int → Int) {k j v q r : Int} (e : r ≠ j) : z_st h k j v q r = h q r := z_st_ne h (fun x => e x.2)
theorem z_st_twice (h : Int → Int → Int) (k j v w : Int) : z_st (z_st h k j v) k j w = z_st h k j w := by
  funext q r
  unfold z_st
  by_cases h1 : q = k <;> by_cases h2 : r = j <;> simp [h1, h2]
theorem z_st_same (h : Int → Int → Int) {k j v : Int} (e : h k j = v) : z_st h k j v = h := by
  funext q r
  unfold z_st
  by_cases h1 : q = k <;> by_cases h2 : r = j <;> simp [h1, h2, e]
theorem z_st_swap (h : Int → Int → Int) {k j v k' j' v' : Int} (e : ¬ (k = k' ∧ j = j')) : z_st (z_st h k j v) k' j' v' = z_st (z_st h k' j' v') k j v := by
  funext q r
  unfold z_st
  by_cases h1 : q = k <;> by_cases h2 : r = j <;> by_cases h3 : q = k' <;> by_cases h4 : r = j' <;> simp_all
end
section
/-! THE CALCULUS, 2: words, contracts, the judgement -/
def z_gw : List Cond := lw_tbl.filter goodWord
theorem z_mem {w : Cond} (i : Nat) (h : lw_tbl[i]? = some w) (hg : goodWord w = true) : w ∈ z_gw := List.mem_filter.mpr ⟨List.mem_of_getElem? h, hg⟩
theorem z_gw_good {w : Cond} (h : w ∈ z_gw) : goodWord w = true := (List.mem_filter.mp h).2
abbrev z_C : Type := Program × Launch × Env × Room × State × MethodId × Array Value × List Frame × Method × Code × (State → Prop) × va_G × (Nat → ClassId) × Nat
/-- a method: its name, code, locals, what it returns; frames, words of locals, cells, slots that it may take -/
abbrev z_M : Type := MethodName × ByteArray × Nat × Option FieldType × Nat × Nat × Nat × Nat
abbrev z_H : Type := Int → Int → Int
def z_nest : List Cond := [.methodLinkNest RX9 11 yX4_init RX9, .methodLinkNest RX9 18 yX5_init RX9, .methodLinkNest RX6 15 yX2_init RX9, .methodLinkNest RX9 25 yX1_init RX9, .methodLinkNest RX9 32 yX7_init RX9, .methodLinkNest RX9 39 yX8_init RX9]
def z_K (D : va_G) (ca : Nat → ClassId) (U : State) : Prop := va_K D vwCl [(ca 1, .int), (ca 2, .boolean), (ca 3, .object RX2), (ca 4, .object RX6)] U ∧ (∀ w ∈ z_nest, va_Nw w U) ∧ va_AO RX2 U ∧ va_AO RX6 U
theorem z_K.warm {D : va_G} {ca : Nat → ClassId} {s U : State} (hW : s.WarmedH U.vm) (h : z_K D ca s) : z_K D ca U := by
  refine ⟨va_K.moved hW.alike h.1, ?_, h.2.2.1.moved hW.alike, h.2.2.2.moved hW.alike⟩
  intro w hw
  have hn := h.2.1 w hw
  simp only [z_nest, List.mem_cons, List.not_mem_nil, or_false] at hw
  rcases hw with rfl | rfl | rfl | rfl | rfl | rfl <;> exact va_Nw.warmM hW hn
theorem z_K.same {D : va_G} {ca : Nat → ClassId} {s U : State} (hW : s.vm = U.vm) (h : z_K D ca s) : z_K D ca U := by
  have ha : s.vm.Alike U.vm := by rw [← hW]; exact Vm.Alike.refl s.vm
  refine ⟨va_K.moved ha h.1, ?_, h.2.2.1.moved ha, h.2.2.2.moved ha⟩
  intro w hw
  have hn := h.2.1 w hw
  simp only [z_nest, List.mem_cons, List.not_mem_nil, or_false] at hw
  rcases hw with rfl | rfl | rfl | rfl | rfl | rfl <;> exact va_Nw.same rfl hW hn
def z_W (D : va_G) (ca : Nat → ClassId) (base n : Nat) (h : z_H) (H : Heap) : Prop := va_P D vwCl (z_w ca base n h) H
def z_Ok : z_C → z_M → Prop
  | (p, _, _, R, s, m, args, _, meth, c, _, D, ca, base), (y, cc, nL, ret, fr, lo, rc, rs) => p.tables.exec = Jvm.exec ∧ c.code = cc ∧ c.maxLocals = nL ∧ s.vm.findClass y.cls = some m.cls ∧ (∀ w ∈ z_gw, w.before args s = true) ∧ meth.locks = false ∧ meth.sig.returnType = ret ∧ R.frames = fr ∧ R.locals = lo ∧ R.cells = rc ∧ R.slots = rs ∧ z_K D ca s ∧ base ≤ s.heap.size ∧ meth.name = y.name
def z_L (base N : Nat) (ls : Array Slot) (L : List (Nat × Int)) : Prop := ls.size = N ∧ L.length = N ∧ lv_wf ls ∧ ∀ (i : Nat) (c : Nat × Int), L[i]? = some c → c.1 ≠ 9 → ls[i]? = some (.val (z_v base c))
/-- the judgement: n cells stand, cells and slots are taken, at pc with locals L, stack st, contents h -/
def z_V : z_C → Nat × Nat × Nat → Nat → List (Nat × Int) → List (Nat × Int) → z_H → Prop
  | (p, l, e, R, s, m, args, below, meth, c, Q, D, ca, base), (n, cells, slots), pc, L, st, h => ∀ (H : Heap) (locs : List Loc) (ls : Array Slot), (base + n = s.heap.size + cells ∧ z_W D ca base n h H) → va_S (fun q => base ≤ q) s.heap H locs → z_L base c.maxLocals ls L → W p l e R s m args below meth c H locs cells slots Q (F0 m pc ls (st.map (z_v base)))
def z_Pc (D : va_G) (ca : Nat → ClassId) (base n : Nat) (as : List (Nat × Int)) (h : z_H) : Array Value → State → Prop := fun v U => v = (as.map (z_v base)).toArray ∧ U.heap.size = base + n ∧ z_W D ca base n h U.heap ∧ z_K D ca U
def z_Qc (D : va_G) (ca : Nat → ClassId) (base n : Nat) (P : Option (Nat × Int) → z_H → Prop) : Array Value → State → Outcome → State → Prop := fun _ st oc t => (∃ (r : Option (Nat × Int)) (h : z_H), oc = .returned (r.map (z_v base)) ∧ P r h ∧ z_W D ca base n h t.heap) ∧ va_F (fun q => base ≤ q) st t
def z_Ct : z_M → Nat → List (Nat × Int) → z_H → (Option (Nat × Int) → z_H → Prop) → Prop
  | (y, cc, nL, ret, fr, lo, rc, rs), n, as, h, P => ∀ (l : Launch) (D : va_G) (ca : Nat → ClassId) (base : Nat), Met l y (Cond.code y cc nL ret :: z_gw) { frames := fr, cells := rc, slots := rs, locals := lo } (z_Pc D ca base n as h) (z_Qc D ca base (n + rc) P) rc rs (fun q => base ≤ q)
def z_RQ : z_C → z_M → Nat → (Option (Nat × Int) → z_H → Prop) → Prop
  | (_, _, _, _, s, _, args, below, _, _, Q, D, ca, base), (_, _, _, _, _, _, rc, rs), n, P => Q = MQ below (z_Qc D ca base (n + rc) P) args s rc rs (fun q => base ≤ q)
def z_sl (as : List (Nat × Int)) : List (Nat × Int) := as.flatMap fun c => if c.1 = 1 then [c, (9, 0)] else [c]
def z_L0 (nL : Nat) (as : List (Nat × Int)) : List (Nat × Int) := z_sl as ++ List.replicate (nL - (z_sl as).length) (9, 0)
theorem z_cat (base : Nat) (c : Nat × Int) : (z_v base c).category = if c.1 = 1 then 2 else 1 := by
  obtain ⟨t, z⟩ := c
  match t with
  | 0 => rfl
  | 1 => rfl
  | t + 2 =>
    show (va_rf (z_on base z)).category = _
    rw [if_neg (show ¬ t + 2 = 1 by omega)]
    unfold z_on
    split <;> rfl
theorem z_args (base : Nat) : ∀ (as : List (Nat × Int)) (o i : Nat) (c : Nat × Int), (z_sl as)[i]? = some c → c.1 ≠ 9 → (o + i, z_v base c) ∈ lv_args o (as.map (z_v base))
  | [], o, i, c, h, _ => by simp [z_sl] at h
  | a :: as, o, i, c, h, h9 => by
    have e : z_sl (a :: as) = (if a.1 = 1 then [a, (9, 0)] else [a]) ++ z_sl as := rfl
    rw [e] at h
    show (o + i, z_v base c) ∈ (o, z_v base a) :: lv_args (if (z_v base a).category = 2 then o + 2 else o + 1) (as.map (z_v base))
    rw [z_cat]
    by_cases ha : a.1 = 1
    · rw [if_pos ha] at h
      rw [if_pos ha, if_pos rfl]
      match i, h with
      | 0, h => cases h; exact List.mem_cons_self
      | 1, h => cases h; exact absurd rfl h9
      | i + 2, h =>
        have := z_args base as (o + 2) i c (by simpa using h) h9
        rw [show o + 2 + i = o + (i + 2) by omega] at this
        exact List.mem_cons_of_mem _ this
    · rw [if_neg ha] at h
      rw [if_neg ha, if_neg (by decide)]
      match i, h with
      | 0, h => cases h; exact List.mem_cons_self
      | i + 1, h =>
        have := z_args base as (o + 1) i c (by simpa using h) h9
        rw [show o + 1 + i = o + (i + 1) by omega] at this
        exact List.mem_cons_of_mem _ this
theorem z_sl_len (base : Nat) (as : List (Nat × Int)) : (lg_sl (as.map (z_v base))).length = (z_sl as).length := by
  induction as with
  | nil => rfl
  | cons a as ih =>
    have e : z_sl (a :: as) = (if a.1 = 1 then [a, (9, 0)] else [a]) ++ z_sl as := rfl
    have e2 : lg_sl ((a :: as).map (z_v base)) = (if (z_v base a).category = 2 then [.val (z_v base a), .second] else [.val (z_v base a)]) ++ lg_sl (as.map (z_v base)) := rfl
    rw [e, e2, List.length_append, List.length_append, ih, z_cat]
    by_cases ha : a.1 = 1
    · simp [ha]
    · simp [ha]
/-- a method's contract out of the judgement at its entry -/
theorem z_mk {M : z_M} {n : Nat} {as : List (Nat × Int)} {h : z_H} {P : Option (Nat × Int) → z_H → Prop} {L : List (Nat × Int)} (hp : plainName M.1.cls = true) (hlen : (z_sl as).length ≤ M.2.2.1) (hL : z_L0 M.2.2.1 as = L)
    (body : ∀ Γ : z_C, z_Ok Γ M → z_RQ Γ M n P → z_V Γ (n, 0, 0) 0 L [] h) : z_Ct M n as h P := by
  obtain ⟨y, cc, nL, ret, fr, lo, rc, rs⟩ := M
  intro l D ca base
  refine Met.ofW (cc := cc) (maxL := nL) (ret := ret) hp rfl ?_
  intro p e s m args below meth c s₁ B hml hv
  obtain ⟨rfl, hsz, hW, hK⟩ := hv
  have hts := atoms_spec (ws := Cond.code y cc nL ret :: z_gw) B.pre
  have hown : s.vm.findClass y.cls = some m.cls := findClass_of_methodNamed B.named
  have hnm : meth.name = y.name := (name_of_methodNamed B.named B.method).1
  have k := body (p, l, e, (headSpec (Cond.code y cc nL ret :: z_gw) { frames := fr, cells := rc, slots := rs, locals := lo }).room, s, m, (as.map (z_v base)).toArray, below, meth, c, MQ below (z_Qc D ca base (n + rc) P) (as.map (z_v base)).toArray s rc rs (fun q => base ≤ q), D, ca, base)
    ⟨B.exec, B.bytes, hml, hown, fun w hw => hts w (List.mem_cons_of_mem _ hw), B.notSynchronized, B.returns, rfl, rfl, rfl, rfl, hK, by rw [hsz]; exact Nat.le_add_right _ _, hnm⟩ rfl
  rw [lg_entry_eq]
  refine k s.heap [] _ ⟨hsz.symm, hW⟩ va_S.rf ?_
  subst hL
  have hl := lv_entry (as.map (z_v base)) (n := nL) (by rw [z_sl_len]; exact hlen)
  have hlen' : (z_sl as).length ≤ nL := hlen
  show z_L base c.maxLocals _ (z_L0 nL as)
  rw [hml]
  refine ⟨hl.1, ?_, hl.2.1, fun i q hq h9 => ?_⟩
  · unfold z_L0
    simp
    omega
  · refine hl.2.2 (i, z_v base q) ?_
    have hq' : (z_sl as)[i]? = some q := by
      unfold z_L0 at hq
      by_cases hi : i < (z_sl as).length
      · rw [List.getElem?_append_left hi] at hq; exact hq
      · rw [List.getElem?_append_right (by omega)] at hq
        have := List.eq_of_mem_replicate (List.mem_of_getElem? hq)
        rw [this] at h9
        exact absurd rfl h9
    have := z_args base as 0 i q hq' h9
    rwa [Nat.zero_add] at this
theorem z_Ct.mono {M : z_M} {n : Nat} {as : List (Nat × Int)} {h : z_H} {P P' : Option (Nat × Int) → z_H → Prop} (hc : z_Ct M n as h P) (hP : ∀ r h', P r h' → P' r h') : z_Ct M n as h P' := by
  obtain ⟨y, cc, nL, ret, fr, lo, rc, rs⟩ := M
  intro l D ca base
  intro p e ha hb hk s m args below hf happ hpre htr
  obtain ⟨k, o, h1, h2, h3, ⟨⟨r, h', g1, g2, g3⟩, g4⟩, g5⟩ := hc l D ca base p e ha hb hk s m args below hf happ hpre htr
  exact ⟨k, o, h1, h2, h3, ⟨⟨r, h', g1, hP r h' g2, g3⟩, g4⟩, g5⟩
/-- what a call needs to know of its callee -/
def z_MOk (M : z_M) (na : Nat) : Prop := Cond.code M.1 M.2.1 M.2.2.1 M.2.2.2.1 ∈ z_gw ∧ Cond.initialized M.1.cls ∈ z_gw ∧ (M.1.cls ≠ "java/lang/invoke/MethodHandle" ∧ M.1.cls ≠ "java/lang/invoke/VarHandle") ∧ (parseMethodDescriptor M.1.desc).map (fun d => d.parameters.length) = some na ∧ plainName M.1.cls = true
end
section
/-! THE CALCULUS, 3: rows for plain instructions -/
theorem V_iconst {Γ : z_C} {M : z_M} {a : Nat × Nat × Nat} {pc : Nat} {L st : List (Nat × Int)} {h : z_H} {z : Int} (X : z_Ok Γ M) (d : decode M.2.1 pc = .ok (.iconst z, 1)) (k : z_V Γ a (pc + 1) L ((0, z) :: st) h) : z_V Γ a pc L st h := by
  obtain ⟨p, l, e, R, s, m, args, below, meth, c, Q, D, ca, base⟩ := Γ
  obtain ⟨y, cc, nL, ret, fr, lo, rc, rs⟩ := M
  obtain ⟨n, cells, slots⟩ := a
  obtain ⟨hx, hb, hml, hown, hts, hlk, hrt, hfr, hlo, hrc, hrs, hK, hbs, hnm⟩ := X
  intro H locs ls hW hS hL
  exact lv_iconst (v := z_i z) hx hb d rfl (k H locs ls hW hS hL)
theorem V_bipush {Γ : z_C} {M : z_M} {a : Nat × Nat × Nat} {pc : Nat} {L st : List (Nat × Int)} {h : z_H} {z : Int} (X : z_Ok Γ M) (d : decode M.2.1 pc = .ok (.bipush z, 2)) (hz : (Int8.ofInt z).toInt32 = z_i z) (k : z_V Γ a (pc + 2) L ((0, z) :: st) h) : z_V Γ a pc L st h := by
  obtain ⟨p, l, e, R, s, m, args, below, meth, c, Q, D, ca, base⟩ := Γ
  obtain ⟨y, cc, nL, ret, fr, lo, rc, rs⟩ := M
  obtain ⟨n, cells, slots⟩ := a
  obtain ⟨hx, hb, hml, hown, hts, hlk, hrt, hfr, hlo, hrc, hrs, hK, hbs, hnm⟩ := X
  intro H locs ls hW hS hL
  exact lv_bipush (v := z_i z) hx hb d hz (k H locs ls hW hS hL)
theorem V_sipush {Γ : z_C} {M : z_M} {a : Nat × Nat × Nat} {pc : Nat} {L st : List (Nat × Int)} {h : z_H} {z : Int} (X : z_Ok Γ M) (d : decode M.2.1 pc = .ok (.sipush z, 3)) (hz : (Int16.ofInt z).toInt32 = z_i z) (k : z_V Γ a (pc + 3) L ((0, z) :: st) h) : z_V Γ a pc L st h := by
  obtain ⟨p, l, e, R, s, m, args, below, meth, c, Q, D, ca, base⟩ := Γ
  obtain ⟨y, cc, nL, ret, fr, lo, rc, rs⟩ := M
  obtain ⟨n, cells, slots⟩ := a
  obtain ⟨hx, hb, hml, hown, hts, hlk, hrt, hfr, hlo, hrc, hrs, hK, hbs, hnm⟩ := X
  intro H locs ls hW hS hL
  exact lv_sipush (v := z_i z) hx hb d hz (k H locs ls hW hS hL)
theorem V_ldc {Γ : z_C} {M : z_M} {a : Nat × Nat × Nat} {pc : Nat} {L st : List (Nat × Int)} {h : z_H} {i : Nat} {v : Int32} (X : z_Ok Γ M) (z : Int) (d : decode M.2.1 pc = .ok (.ldc i, 2)) (hc : Cond.constant M.1.cls i v ∈ z_gw) (hz : z_i z = v) (k : z_V Γ a (pc + 2) L ((0, z) :: st) h) : z_V Γ a pc L st h := by
  obtain ⟨p, l, e, R, s, m, args, below, meth, c, Q, D, ca, base⟩ := Γ
  obtain ⟨y, cc, nL, ret, fr, lo, rc, rs⟩ := M
  obtain ⟨n, cells, slots⟩ := a
  obtain ⟨hx, hb, hml, hown, hts, hlk, hrt, hfr, hlo, hrc, hrs, hK, hbs, hnm⟩ := X
  intro H locs ls hW hS hL
  subst hz
  exact lv_ldc (v := z_i z) hx hb hown (hts _ hc) d (k H locs ls hW hS hL)
theorem V_ldcw {Γ : z_C} {M : z_M} {a : Nat × Nat × Nat} {pc : Nat} {L st : List (Nat × Int)} {h : z_H} {i : Nat} {v : Int32} (X : z_Ok Γ M) (z : Int) (d : decode M.2.1 pc = .ok (.ldc_w i, 3)) (hc : Cond.constant M.1.cls i v ∈ z_gw) (hz : z_i z = v) (k : z_V Γ a (pc + 3) L ((0, z) :: st) h) : z_V Γ a pc L st h := by
  obtain ⟨p, l, e, R, s, m, args, below, meth, c, Q, D, ca, base⟩ := Γ
  obtain ⟨y, cc, nL, ret, fr, lo, rc, rs⟩ := M
  obtain ⟨n, cells, slots⟩ := a
  obtain ⟨hx, hb, hml, hown, hts, hlk, hrt, hfr, hlo, hrc, hrs, hK, hbs, hnm⟩ := X
  intro H locs ls hW hS hL
  subst hz
  exact lv_ldcw (v := z_i z) hx hb hown (hts _ hc) d (k H locs ls hW hS hL)
theorem V_ldc2 {Γ : z_C} {M : z_M} {a : Nat × Nat × Nat} {pc : Nat} {L st : List (Nat × Int)} {h : z_H} {i : Nat} {v : Int64} (X : z_Ok Γ M) (z : Int) (d : decode M.2.1 pc = .ok (.ldc2_w i, 3)) (hc : Cond.constantLong M.1.cls i v ∈ z_gw) (hz : z_l z = v) (k : z_V Γ a (pc + 3) L ((1, z) :: st) h) : z_V Γ a pc L st h := by
  obtain ⟨p, l, e, R, s, m, args, below, meth, c, Q, D, ca, base⟩ := Γ
  obtain ⟨y, cc, nL, ret, fr, lo, rc, rs⟩ := M
  obtain ⟨n, cells, slots⟩ := a
  obtain ⟨hx, hb, hml, hown, hts, hlk, hrt, hfr, hlo, hrc, hrs, hK, hbs, hnm⟩ := X
  intro H locs ls hW hS hL
  subst hz
  exact W.ldc2 (v := z_l z) hx hb hown (hts _ hc) rfl d (k H locs ls hW hS hL)
theorem V_lconst {Γ : z_C} {M : z_M} {a : Nat × Nat × Nat} {pc : Nat} {L st : List (Nat × Int)} {h : z_H} {z : Int} {q : Fin 2} (X : z_Ok Γ M) (d : decode M.2.1 pc = .ok (.lconst q, 1)) (hz : Int64.ofNat (q : Nat) = z_l z) (k : z_V Γ a (pc + 1) L ((1, z) :: st) h) : z_V Γ a pc L st h := by
  obtain ⟨p, l, e, R, s, m, args, below, meth, c, Q, D, ca, base⟩ := Γ
  obtain ⟨y, cc, nL, ret, fr, lo, rc, rs⟩ := M
  obtain ⟨n, cells, slots⟩ := a
  obtain ⟨hx, hb, hml, hown, hts, hlk, hrt, hfr, hlo, hrc, hrs, hK, hbs, hnm⟩ := X
  intro H locs ls hW hS hL
  exact lv_lconst (v := z_l z) hx hb d hz (k H locs ls hW hS hL)
theorem V_iload_n {Γ : z_C} {M : z_M} {a : Nat × Nat × Nat} {pc : Nat} {L st : List (Nat × Int)} {h : z_H} {z : Int} {q : Fin 4} (X : z_Ok Γ M) (d : decode M.2.1 pc = .ok (.iload_n q, 1)) (hq : L[(q : Nat)]? = some (0, z)) (k : z_V Γ a (pc + 1) L ((0, z) :: st) h) : z_V Γ a pc L st h := by
  obtain ⟨p, l, e, R, s, m, args, below, meth, c, Q, D, ca, base⟩ := Γ
  obtain ⟨y, cc, nL, ret, fr, lo, rc, rs⟩ := M
  obtain ⟨n, cells, slots⟩ := a
  obtain ⟨hx, hb, hml, hown, hts, hlk, hrt, hfr, hlo, hrc, hrs, hK, hbs, hnm⟩ := X
  intro H locs ls hW hS hL
  exact lv_iload_n (x := z_i z) hx hb d rfl (hL.2.2.2 _ _ hq (Nat.ne_of_beq_eq_false rfl)) (k H locs ls hW hS hL)
theorem V_iload {Γ : z_C} {M : z_M} {a : Nat × Nat × Nat} {pc : Nat} {L st : List (Nat × Int)} {h : z_H} {z : Int} {i : Nat} (X : z_Ok Γ M) (d : decode M.2.1 pc = .ok (.iload i, 2)) (hq : L[i]? = some (0, z)) (k : z_V Γ a (pc + 2) L ((0, z) :: st) h) : z_V Γ a pc L st h := by
  obtain ⟨p, l, e, R, s, m, args, below, meth, c, Q, D, ca, base⟩ := Γ
  obtain ⟨y, cc, nL, ret, fr, lo, rc, rs⟩ := M
  obtain ⟨n, cells, slots⟩ := a
  obtain ⟨hx, hb, hml, hown, hts, hlk, hrt, hfr, hlo, hrc, hrs, hK, hbs, hnm⟩ := X
  intro H locs ls hW hS hL
  exact lv_iload (x := z_i z) hx hb d (hL.2.2.2 _ _ hq (Nat.ne_of_beq_eq_false rfl)) (k H locs ls hW hS hL)
theorem V_lload_n {Γ : z_C} {M : z_M} {a : Nat × Nat × Nat} {pc : Nat} {L st : List (Nat × Int)} {h : z_H} {z : Int} {q : Fin 4} (X : z_Ok Γ M) (d : decode M.2.1 pc = .ok (.lload_n q, 1)) (hq : L[(q : Nat)]? = some (1, z)) (k : z_V Γ a (pc + 1) L ((1, z) :: st) h) : z_V Γ a pc L st h := by
  obtain ⟨p, l, e, R, s, m, args, below, meth, c, Q, D, ca, base⟩ := Γ
  obtain ⟨y, cc, nL, ret, fr, lo, rc, rs⟩ := M
  obtain ⟨n, cells, slots⟩ := a
  obtain ⟨hx, hb, hml, hown, hts, hlk, hrt, hfr, hlo, hrc, hrs, hK, hbs, hnm⟩ := X
  intro H locs ls hW hS hL
  exact lv_lload_n (x := z_l z) hx hb d rfl (hL.2.2.2 _ _ hq (Nat.ne_of_beq_eq_false rfl)) (k H locs ls hW hS hL)
theorem V_lload {Γ : z_C} {M : z_M} {a : Nat × Nat × Nat} {pc : Nat} {L st : List (Nat × Int)} {h : z_H} {z : Int} {i : Nat} (X : z_Ok Γ M) (d : decode M.2.1 pc = .ok (.lload i, 2)) (hq : L[i]? = some (1, z)) (k : z_V Γ a (pc + 2) L ((1, z) :: st) h) : z_V Γ a pc L st h := by
  obtain ⟨p, l, e, R, s, m, args, below, meth, c, Q, D, ca, base⟩ := Γ
  obtain ⟨y, cc, nL, ret, fr, lo, rc, rs⟩ := M
  obtain ⟨n, cells, slots⟩ := a
  obtain ⟨hx, hb, hml, hown, hts, hlk, hrt, hfr, hlo, hrc, hrs, hK, hbs, hnm⟩ := X
  intro H locs ls hW hS hL
  exact lv_lload (x := z_l z) hx hb d (hL.2.2.2 _ _ hq (Nat.ne_of_beq_eq_false rfl)) (k H locs ls hW hS hL)
theorem V_aload_n {Γ : z_C} {M : z_M} {a : Nat × Nat × Nat} {pc : Nat} {L st : List (Nat × Int)} {h : z_H} {z : Int} {q : Fin 4} (X : z_Ok Γ M) (d : decode M.2.1 pc = .ok (.aload_n q, 1)) (hq : L[(q : Nat)]? = some (2, z)) (hz : 0 ≤ z) (k : z_V Γ a (pc + 1) L ((2, z) :: st) h) : z_V Γ a pc L st h := by
  obtain ⟨p, l, e, R, s, m, args, below, meth, c, Q, D, ca, base⟩ := Γ
  obtain ⟨y, cc, nL, ret, fr, lo, rc, rs⟩ := M
  obtain ⟨n, cells, slots⟩ := a
  obtain ⟨hx, hb, hml, hown, hts, hlk, hrt, hfr, hlo, hrc, hrs, hK, hbs, hnm⟩ := X
  intro H locs ls hW hS hL
  have e := hL.2.2.2 _ _ hq (Nat.ne_of_beq_eq_false rfl)
  have kk := k H locs ls hW hS hL
  rw [List.map_cons, z_v_ref hz] at kk
  rw [z_v_ref hz] at e
  exact lv_aload_n hx hb d rfl e kk
theorem V_aload {Γ : z_C} {M : z_M} {a : Nat × Nat × Nat} {pc : Nat} {L st : List (Nat × Int)} {h : z_H} {z : Int} {i : Nat} (X : z_Ok Γ M) (d : decode M.2.1 pc = .ok (.aload i, 2)) (hq : L[i]? = some (2, z)) (hz : 0 ≤ z) (k : z_V Γ a (pc + 2) L ((2, z) :: st) h) : z_V Γ a pc L st h := by
  obtain ⟨p, l, e, R, s, m, args, below, meth, c, Q, D, ca, base⟩ := Γ
  obtain ⟨y, cc, nL, ret, fr, lo, rc, rs⟩ := M
  obtain ⟨n, cells, slots⟩ := a
  obtain ⟨hx, hb, hml, hown, hts, hlk, hrt, hfr, hlo, hrc, hrs, hK, hbs, hnm⟩ := X
  intro H locs ls hW hS hL
  have e := hL.2.2.2 _ _ hq (Nat.ne_of_beq_eq_false rfl)
  have kk := k H locs ls hW hS hL
  rw [List.map_cons, z_v_ref hz] at kk
  rw [z_v_ref hz] at e
  exact lv_aload hx hb d e kk
def z_nl (L : List (Nat × Int)) : Bool := L.all fun c => !(c.1 == 1)
theorem z_store {base N : Nat} {ls : Array Slot} {L : List (Nat × Int)} {i : Nat} {c : Nat × Int} (hL : z_L base N ls L) (hi : i < L.length) (hn : z_nl L = true) (hc : c.1 ≠ 1) : ∃ ls', storeLocals ls i (z_v base c) = some ls' ∧ z_L base N ls' (L.set i c) := by
  obtain ⟨h1, h2, h3, h4⟩ := hL
  have hh : lv_has ls N ((List.range L.length).filterMap fun j => (L[j]?).bind fun q => if q.1 = 9 then none else some (j, z_v base q)) := by
    refine ⟨h1, h3, fun q hq => ?_⟩
    obtain ⟨j, hj, e⟩ := List.mem_filterMap.mp hq
    have hjl := List.mem_range.mp hj
    rw [List.getElem?_eq_getElem hjl] at e
    simp only [Option.bind_some] at e
    split at e
    · cases e
    · cases e
      exact h4 j _ (List.getElem?_eq_getElem hjl) (by assumption)
  obtain ⟨ls', e1, e2⟩ := lv_store1 (i := i) (v := z_v base c) hh (by omega) (by rw [z_cat, if_neg hc])
  refine ⟨ls', e1, e2.1, by rw [List.length_set]; exact h2, e2.2.1, fun j q hq h9 => ?_⟩
  by_cases hj : j = i
  · subst hj
    rw [List.getElem?_set_self hi] at hq
    cases hq
    exact e2.2.2 (j, z_v base c) List.mem_cons_self
  · rw [List.getElem?_set_ne (Ne.symm hj)] at hq
    have hjl : j < L.length := (List.getElem?_eq_some_iff.mp hq).1
    refine e2.2.2 (j, z_v base q) (List.mem_cons_of_mem _ (List.mem_filter.mpr ⟨List.mem_filterMap.mpr ⟨j, List.mem_range.mpr hjl, ?_⟩, ?_⟩))
    · rw [hq]
      simp only [Option.bind_some]
      rw [if_neg h9]
    · have hq1 : ¬ q.1 = 1 := by
        have := List.all_eq_true.mp hn q (List.mem_of_getElem? hq)
        simpa using this
      simp [hj, z_cat, hq1]
theorem V_istore_n {Γ : z_C} {M : z_M} {a : Nat × Nat × Nat} {pc : Nat} {L st : List (Nat × Int)} {h : z_H} {z : Int} {q : Fin 4} (X : z_Ok Γ M) (d : decode M.2.1 pc = .ok (.istore_n q, 1)) (hi : (q : Nat) < L.length) (hn : z_nl L = true) (k : z_V Γ a (pc + 1) (L.set (q : Nat) (0, z)) st h) : z_V Γ a pc L ((0, z) :: st) h := by
  obtain ⟨p, l, e, R, s, m, args, below, meth, c, Q, D, ca, base⟩ := Γ
  obtain ⟨y, cc, nL, ret, fr, lo, rc, rs⟩ := M
  obtain ⟨n, cells, slots⟩ := a
  obtain ⟨hx, hb, hml, hown, hts, hlk, hrt, hfr, hlo, hrc, hrs, hK, hbs, hnm⟩ := X
  intro H locs ls hW hS hL
  obtain ⟨ls', e1, e2⟩ := z_store (i := (q : Nat)) (c := (0, z)) hL hi hn (Nat.ne_of_beq_eq_false rfl)
  have kk := k H locs ls' hW hS e2
  intro T hT XX
  obtain ⟨t, a, b⟩ := kk T hT XX
  refine ⟨t, ?_, b⟩
  have e1 : storeLocals ls (q : Nat) (.int (z_i z)) = some ls' := e1
  show Steps _ _ _ (T.setTop (F0 m pc ls (.int (z_i z) :: st.map (z_v base)))) t
  jvm_step XX.here [XX.here.top, ↓top_set XX.here.top, hx, hb, (show decode cc pc = _ from d), e1]
  exact a
theorem V_istore {Γ : z_C} {M : z_M} {a : Nat × Nat × Nat} {pc : Nat} {L st : List (Nat × Int)} {h : z_H} {z : Int} {i : Nat} (X : z_Ok Γ M) (d : decode M.2.1 pc = .ok (.istore i, 2)) (hi : i < L.length) (hn : z_nl L = true) (k : z_V Γ a (pc + 2) (L.set i (0, z)) st h) : z_V Γ a pc L ((0, z) :: st) h := by
  obtain ⟨p, l, e, R, s, m, args, below, meth, c, Q, D, ca, base⟩ := Γ
  obtain ⟨y, cc, nL, ret, fr, lo, rc, rs⟩ := M
  obtain ⟨n, cells, slots⟩ := a
  obtain ⟨hx, hb, hml, hown, hts, hlk, hrt, hfr, hlo, hrc, hrs, hK, hbs, hnm⟩ := X
  intro H locs ls hW hS hL
  obtain ⟨ls', e1, e2⟩ := z_store (i := i) (c := (0, z)) hL hi hn (Nat.ne_of_beq_eq_false rfl)
  have kk := k H locs ls' hW hS e2
  intro T hT XX
  obtain ⟨t, a, b⟩ := kk T hT XX
  refine ⟨t, ?_, b⟩
  have e1 : storeLocals ls i (.int (z_i z)) = some ls' := e1
  show Steps _ _ _ (T.setTop (F0 m pc ls (.int (z_i z) :: st.map (z_v base)))) t
  jvm_step XX.here [XX.here.top, ↓top_set XX.here.top, hx, hb, (show decode cc pc = _ from d), e1]
  exact a
theorem V_astore_n {Γ : z_C} {M : z_M} {a : Nat × Nat × Nat} {pc : Nat} {L st : List (Nat × Int)} {h : z_H} {z : Int} {q : Fin 4} (X : z_Ok Γ M) (d : decode M.2.1 pc = .ok (.astore_n q, 1)) (hi : (q : Nat) < L.length) (hn : z_nl L = true) (hz : 0 ≤ z) (k : z_V Γ a (pc + 1) (L.set (q : Nat) (2, z)) st h) : z_V Γ a pc L ((2, z) :: st) h := by
  obtain ⟨p, l, e, R, s, m, args, below, meth, c, Q, D, ca, base⟩ := Γ
  obtain ⟨y, cc, nL, ret, fr, lo, rc, rs⟩ := M
  obtain ⟨n, cells, slots⟩ := a
  obtain ⟨hx, hb, hml, hown, hts, hlk, hrt, hfr, hlo, hrc, hrs, hK, hbs, hnm⟩ := X
  intro H locs ls hW hS hL
  obtain ⟨ls', e1, e2⟩ := z_store (i := (q : Nat)) (c := (2, z)) hL hi hn (Nat.ne_of_beq_eq_false rfl)
  have kk := k H locs ls' hW hS e2
  intro T hT XX
  obtain ⟨t, a, b⟩ := kk T hT XX
  refine ⟨t, ?_, b⟩
  rw [z_v_ref hz] at e1
  show Steps _ _ _ (T.setTop (F0 m pc ls (z_v base (2, z) :: st.map (z_v base)))) t
  rw [z_v_ref hz]
  jvm_step XX.here [XX.here.top, ↓top_set XX.here.top, hx, hb, (show decode cc pc = _ from d), e1, Value.isRef]
  exact a
theorem V_astore {Γ : z_C} {M : z_M} {a : Nat × Nat × Nat} {pc : Nat} {L st : List (Nat × Int)} {h : z_H} {z : Int} {i : Nat} (X : z_Ok Γ M) (d : decode M.2.1 pc = .ok (.astore i, 2)) (hi : i < L.length) (hn : z_nl L = true) (hz : 0 ≤ z) (k : z_V Γ a (pc + 2) (L.set i (2, z)) st h) : z_V Γ a pc L ((2, z) :: st) h := by
  obtain ⟨p, l, e, R, s, m, args, below, meth, c, Q, D, ca, base⟩ := Γ
  obtain ⟨y, cc, nL, ret, fr, lo, rc, rs⟩ := M
  obtain ⟨n, cells, slots⟩ := a
  obtain ⟨hx, hb, hml, hown, hts, hlk, hrt, hfr, hlo, hrc, hrs, hK, hbs, hnm⟩ := X
  intro H locs ls hW hS hL
  obtain ⟨ls', e1, e2⟩ := z_store (i := i) (c := (2, z)) hL hi hn (Nat.ne_of_beq_eq_false rfl)
  have kk := k H locs ls' hW hS e2
  intro T hT XX
  obtain ⟨t, a, b⟩ := kk T hT XX
  refine ⟨t, ?_, b⟩
  rw [z_v_ref hz] at e1
  show Steps _ _ _ (T.setTop (F0 m pc ls (z_v base (2, z) :: st.map (z_v base)))) t
  rw [z_v_ref hz]
  jvm_step XX.here [XX.here.top, ↓top_set XX.here.top, hx, hb, (show decode cc pc = _ from d), e1, Value.isRef]
  exact a
theorem V_iinc {Γ : z_C} {M : z_M} {a : Nat × Nat × Nat} {pc : Nat} {L st : List (Nat × Int)} {h : z_H} {i : Nat} {w z : Int} (X : z_Ok Γ M) (d : decode M.2.1 pc = .ok (.iinc i w, 3)) (hq : L[i]? = some (0, z)) (hn : z_nl L = true) (k : z_V Γ a (pc + 3) (L.set i (0, z + w)) st h) : z_V Γ a pc L st h := by
  obtain ⟨p, l, e, R, s, m, args, below, meth, c, Q, D, ca, base⟩ := Γ
  obtain ⟨y, cc, nL, ret, fr, lo, rc, rs⟩ := M
  obtain ⟨n, cells, slots⟩ := a
  obtain ⟨hx, hb, hml, hown, hts, hlk, hrt, hfr, hlo, hrc, hrs, hK, hbs, hnm⟩ := X
  intro H locs ls hW hS hL
  have hi : i < L.length := (List.getElem?_eq_some_iff.mp hq).1
  have hg := hL.2.2.2 _ _ hq (Nat.ne_of_beq_eq_false rfl)
  have hg : ls[i]? = some (.val (.int (z_i z))) := hg
  obtain ⟨ls', e1, e2⟩ := z_store (i := i) (c := (0, z + w)) hL hi hn (Nat.ne_of_beq_eq_false rfl)
  have e1 : storeLocals ls i (.int (z_i (z + w))) = some ls' := e1
  rw [← z_i_add] at e1
  have e1 : storeLocals ls i (.int (z_i z + Int32.ofInt w)) = some ls' := e1
  have kk := k H locs ls' hW hS e2
  intro T hT XX
  obtain ⟨t, a, b⟩ := kk T hT XX
  refine ⟨t, ?_, b⟩
  jvm_step XX.here [XX.here.top, ↓top_set XX.here.top, hx, hb, (show decode cc pc = _ from d), hg, e1]
  exact a
theorem V_iadd {Γ : z_C} {M : z_M} {a : Nat × Nat × Nat} {pc : Nat} {L st : List (Nat × Int)} {h : z_H} {x z : Int} (X : z_Ok Γ M) (d : decode M.2.1 pc = .ok (.iadd, 1)) (k : z_V Γ a (pc + 1) L ((0, x + z) :: st) h) : z_V Γ a pc L ((0, z) :: (0, x) :: st) h := by
  obtain ⟨p, l, e, R, s, m, args, below, meth, c, Q, D, ca, base⟩ := Γ
  obtain ⟨y, cc, nL, ret, fr, lo, rc, rs⟩ := M
  obtain ⟨n, cells, slots⟩ := a
  obtain ⟨hx, hb, hml, hown, hts, hlk, hrt, hfr, hlo, hrc, hrs, hK, hbs, hnm⟩ := X
  intro H locs ls hW hS hL
  have kk := k H locs ls hW hS hL
  rw [List.map_cons, z_v_int, ← z_i_add] at kk
  exact lv_iadd hx hb d kk
theorem V_isub {Γ : z_C} {M : z_M} {a : Nat × Nat × Nat} {pc : Nat} {L st : List (Nat × Int)} {h : z_H} {x z : Int} (X : z_Ok Γ M) (d : decode M.2.1 pc = .ok (.isub, 1)) (k : z_V Γ a (pc + 1) L ((0, x - z) :: st) h) : z_V Γ a pc L ((0, z) :: (0, x) :: st) h := by
  obtain ⟨p, l, e, R, s, m, args, below, meth, c, Q, D, ca, base⟩ := Γ
  obtain ⟨y, cc, nL, ret, fr, lo, rc, rs⟩ := M
  obtain ⟨n, cells, slots⟩ := a
  obtain ⟨hx, hb, hml, hown, hts, hlk, hrt, hfr, hlo, hrc, hrs, hK, hbs, hnm⟩ := X
  intro H locs ls hW hS hL
  have kk := k H locs ls hW hS hL
  rw [List.map_cons, z_v_int, ← z_i_sub] at kk
  exact lv_isub hx hb d kk
theorem V_imul {Γ : z_C} {M : z_M} {a : Nat × Nat × Nat} {pc : Nat} {L st : List (Nat × Int)} {h : z_H} {x z : Int} (X : z_Ok Γ M) (d : decode M.2.1 pc = .ok (.imul, 1)) (k : z_V Γ a (pc + 1) L ((0, x * z) :: st) h) : z_V Γ a pc L ((0, z) :: (0, x) :: st) h := by
  obtain ⟨p, l, e, R, s, m, args, below, meth, c, Q, D, ca, base⟩ := Γ
  obtain ⟨y, cc, nL, ret, fr, lo, rc, rs⟩ := M
  obtain ⟨n, cells, slots⟩ := a
  obtain ⟨hx, hb, hml, hown, hts, hlk, hrt, hfr, hlo, hrc, hrs, hK, hbs, hnm⟩ := X
  intro H locs ls hW hS hL
  have kk := k H locs ls hW hS hL
  rw [List.map_cons, z_v_int, ← z_i_mul] at kk
  exact lv_imul hx hb d kk
def z_and (x y : Int) : Int := (z_i x &&& z_i y).toInt
def z_or (x y : Int) : Int := (z_i x ||| z_i y).toInt
def z_xor (x y : Int) : Int := (z_i x ^^^ z_i y).toInt
def z_shl (x y : Int) : Int := (z_i x <<< (z_i y &&& 31)).toInt
def z_shr (x y : Int) : Int := (z_i x >>> (z_i y &&& 31)).toInt
def z_ushr (x y : Int) : Int := ((z_i x).toUInt32 >>> ((z_i y).toUInt32 &&& Int32.toUInt32 31)).toInt32.toInt
theorem V_iand {Γ : z_C} {M : z_M} {a : Nat × Nat × Nat} {pc : Nat} {L st : List (Nat × Int)} {h : z_H} {x z : Int} (X : z_Ok Γ M) (d : decode M.2.1 pc = .ok (.iand, 1)) (k : z_V Γ a (pc + 1) L ((0, z_and x z) :: st) h) : z_V Γ a pc L ((0, z) :: (0, x) :: st) h := by
  obtain ⟨p, l, e, R, s, m, args, below, meth, c, Q, D, ca, base⟩ := Γ
  obtain ⟨y, cc, nL, ret, fr, lo, rc, rs⟩ := M
  obtain ⟨n, cells, slots⟩ := a
  obtain ⟨hx, hb, hml, hown, hts, hlk, hrt, hfr, hlo, hrc, hrs, hK, hbs, hnm⟩ := X
  intro H locs ls hW hS hL
  have kk := k H locs ls hW hS hL
  rw [List.map_cons, z_v_int, z_and, z_i_of] at kk
  exact lv_iand hx hb d kk
theorem V_ior {Γ : z_C} {M : z_M} {a : Nat × Nat × Nat} {pc : Nat} {L st : List (Nat × Int)} {h : z_H} {x z : Int} (X : z_Ok Γ M) (d : decode M.2.1 pc = .ok (.ior, 1)) (k : z_V Γ a (pc + 1) L ((0, z_or x z) :: st) h) : z_V Γ a pc L ((0, z) :: (0, x) :: st) h := by
  obtain ⟨p, l, e, R, s, m, args, below, meth, c, Q, D, ca, base⟩ := Γ
  obtain ⟨y, cc, nL, ret, fr, lo, rc, rs⟩ := M
  obtain ⟨n, cells, slots⟩ := a
  obtain ⟨hx, hb, hml, hown, hts, hlk, hrt, hfr, hlo, hrc, hrs, hK, hbs, hnm⟩ := X
  intro H locs ls hW hS hL
  have kk := k H locs ls hW hS hL
  rw [List.map_cons, z_v_int, z_or, z_i_of] at kk
  exact lv_ior hx hb d kk
theorem V_ixor {Γ : z_C} {M : z_M} {a : Nat × Nat × Nat} {pc : Nat} {L st : List (Nat × Int)} {h : z_H} {x z : Int} (X : z_Ok Γ M) (d : decode M.2.1 pc = .ok (.ixor, 1)) (k : z_V Γ a (pc + 1) L ((0, z_xor x z) :: st) h) : z_V Γ a pc L ((0, z) :: (0, x) :: st) h := by
  obtain ⟨p, l, e, R, s, m, args, below, meth, c, Q, D, ca, base⟩ := Γ
  obtain ⟨y, cc, nL, ret, fr, lo, rc, rs⟩ := M
  obtain ⟨n, cells, slots⟩ := a
  obtain ⟨hx, hb, hml, hown, hts, hlk, hrt, hfr, hlo, hrc, hrs, hK, hbs, hnm⟩ := X
  intro H locs ls hW hS hL
  have kk := k H locs ls hW hS hL
  rw [List.map_cons, z_v_int, z_xor, z_i_of] at kk
  exact lv_ixor hx hb d kk
theorem V_ishl {Γ : z_C} {M : z_M} {a : Nat × Nat × Nat} {pc : Nat} {L st : List (Nat × Int)} {h : z_H} {x z : Int} (X : z_Ok Γ M) (d : decode M.2.1 pc = .ok (.ishl, 1)) (k : z_V Γ a (pc + 1) L ((0, z_shl x z) :: st) h) : z_V Γ a pc L ((0, z) :: (0, x) :: st) h := by
  obtain ⟨p, l, e, R, s, m, args, below, meth, c, Q, D, ca, base⟩ := Γ
  obtain ⟨y, cc, nL, ret, fr, lo, rc, rs⟩ := M
  obtain ⟨n, cells, slots⟩ := a
  obtain ⟨hx, hb, hml, hown, hts, hlk, hrt, hfr, hlo, hrc, hrs, hK, hbs, hnm⟩ := X
  intro H locs ls hW hS hL
  have kk := k H locs ls hW hS hL
  rw [List.map_cons, z_v_int, z_shl, z_i_of] at kk
  exact lv_ishl hx hb d kk
theorem V_ishr {Γ : z_C} {M : z_M} {a : Nat × Nat × Nat} {pc : Nat} {L st : List (Nat × Int)} {h : z_H} {x z : Int} (X : z_Ok Γ M) (d : decode M.2.1 pc = .ok (.ishr, 1)) (k : z_V Γ a (pc + 1) L ((0, z_shr x z) :: st) h) : z_V Γ a pc L ((0, z) :: (0, x) :: st) h := by
  obtain ⟨p, l, e, R, s, m, args, below, meth, c, Q, D, ca, base⟩ := Γ
  obtain ⟨y, cc, nL, ret, fr, lo, rc, rs⟩ := M
  obtain ⟨n, cells, slots⟩ := a
  obtain ⟨hx, hb, hml, hown, hts, hlk, hrt, hfr, hlo, hrc, hrs, hK, hbs, hnm⟩ := X
  intro H locs ls hW hS hL
  have kk := k H locs ls hW hS hL
  rw [List.map_cons, z_v_int, z_shr, z_i_of] at kk
  exact lv_ishr hx hb d kk
theorem V_iushr {Γ : z_C} {M : z_M} {a : Nat × Nat × Nat} {pc : Nat} {L st : List (Nat × Int)} {h : z_H} {x z : Int} (X : z_Ok Γ M) (d : decode M.2.1 pc = .ok (.iushr, 1)) (k : z_V Γ a (pc + 1) L ((0, z_ushr x z) :: st) h) : z_V Γ a pc L ((0, z) :: (0, x) :: st) h := by
  obtain ⟨p, l, e, R, s, m, args, below, meth, c, Q, D, ca, base⟩ := Γ
  obtain ⟨y, cc, nL, ret, fr, lo, rc, rs⟩ := M
  obtain ⟨n, cells, slots⟩ := a
  obtain ⟨hx, hb, hml, hown, hts, hlk, hrt, hfr, hlo, hrc, hrs, hK, hbs, hnm⟩ := X
  intro H locs ls hW hS hL
  have kk := k H locs ls hW hS hL
  rw [List.map_cons, z_v_int, z_ushr, z_i_of] at kk
  exact lv_iushr hx hb d rfl kk
theorem V_idiv {Γ : z_C} {M : z_M} {a : Nat × Nat × Nat} {pc : Nat} {L st : List (Nat × Int)} {h : z_H} {x z : Int} (X : z_Ok Γ M) (d : decode M.2.1 pc = .ok (.idiv, 1)) (h1 : z_R x) (h2 : z_R z) (h3 : z ≠ 0) (h4 : z ≠ -1) (k : z_V Γ a (pc + 1) L ((0, x.tdiv z) :: st) h) : z_V Γ a pc L ((0, z) :: (0, x) :: st) h := by
  obtain ⟨p, l, e, R, s, m, args, below, meth, c, Q, D, ca, base⟩ := Γ
  obtain ⟨y, cc, nL, ret, fr, lo, rc, rs⟩ := M
  obtain ⟨n, cells, slots⟩ := a
  obtain ⟨hx, hb, hml, hown, hts, hlk, hrt, hfr, hlo, hrc, hrs, hK, hbs, hnm⟩ := X
  intro H locs ls hW hS hL
  have kk := k H locs ls hW hS hL
  rw [List.map_cons, z_v_int, ← z_i_div h1 h2 h3 h4] at kk
  exact lv_idiv hx hb d (fun q => h3 ((z_i_eq h2 z_R0).mp q)) kk
theorem V_irem {Γ : z_C} {M : z_M} {a : Nat × Nat × Nat} {pc : Nat} {L st : List (Nat × Int)} {h : z_H} {x z : Int} (X : z_Ok Γ M) (d : decode M.2.1 pc = .ok (.irem, 1)) (h1 : z_R x) (h2 : z_R z) (h3 : z ≠ 0) (h4 : z ≠ -1) (k : z_V Γ a (pc + 1) L ((0, x.tmod z) :: st) h) : z_V Γ a pc L ((0, z) :: (0, x) :: st) h := by
  obtain ⟨p, l, e, R, s, m, args, below, meth, c, Q, D, ca, base⟩ := Γ
  obtain ⟨y, cc, nL, ret, fr, lo, rc, rs⟩ := M
  obtain ⟨n, cells, slots⟩ := a
  obtain ⟨hx, hb, hml, hown, hts, hlk, hrt, hfr, hlo, hrc, hrs, hK, hbs, hnm⟩ := X
  intro H locs ls hW hS hL
  have kk := k H locs ls hW hS hL
  rw [List.map_cons, z_v_int, ← z_i_rem h1 h2 h3 h4] at kk
  exact lv_irem hx hb d (fun q => h3 ((z_i_eq h2 z_R0).mp q)) kk
theorem V_i2l {Γ : z_C} {M : z_M} {a : Nat × Nat × Nat} {pc : Nat} {L st : List (Nat × Int)} {h : z_H} {z : Int} (X : z_Ok Γ M) (d : decode M.2.1 pc = .ok (.i2l, 1)) (h1 : z_R z) (k : z_V Γ a (pc + 1) L ((1, z) :: st) h) : z_V Γ a pc L ((0, z) :: st) h := by
  obtain ⟨p, l, e, R, s, m, args, below, meth, c, Q, D, ca, base⟩ := Γ
  obtain ⟨y, cc, nL, ret, fr, lo, rc, rs⟩ := M
  obtain ⟨n, cells, slots⟩ := a
  obtain ⟨hx, hb, hml, hown, hts, hlk, hrt, hfr, hlo, hrc, hrs, hK, hbs, hnm⟩ := X
  intro H locs ls hW hS hL
  have kk := k H locs ls hW hS hL
  refine lv_i2l (v := z_l z) hx hb d ?_ kk
  apply Int64.toInt_inj.mp
  rw [Int32.toInt_toInt64, z_i_to h1]
  exact (Int64.toInt_ofInt_of_le (by have := h1.1; omega) (by have := h1.2; omega)).symm
theorem V_ladd {Γ : z_C} {M : z_M} {a : Nat × Nat × Nat} {pc : Nat} {L st : List (Nat × Int)} {h : z_H} {x z : Int} (X : z_Ok Γ M) (d : decode M.2.1 pc = .ok (.ladd, 1)) (k : z_V Γ a (pc + 1) L ((1, x + z) :: st) h) : z_V Γ a pc L ((1, z) :: (1, x) :: st) h := by
  obtain ⟨p, l, e, R, s, m, args, below, meth, c, Q, D, ca, base⟩ := Γ
  obtain ⟨y, cc, nL, ret, fr, lo, rc, rs⟩ := M
  obtain ⟨n, cells, slots⟩ := a
  obtain ⟨hx, hb, hml, hown, hts, hlk, hrt, hfr, hlo, hrc, hrs, hK, hbs, hnm⟩ := X
  intro H locs ls hW hS hL
  have kk := k H locs ls hW hS hL
  rw [List.map_cons, z_v_long, show z_l (x + z) = z_l x + z_l z from Int64.ofInt_add x z] at kk
  exact lv_ladd hx hb d kk
def z_RL (x : Int) : Prop := -9223372036854775808 ≤ x ∧ x < 9223372036854775808
def z_cmp (x y : Int) : Int := if y < x then 1 else if x = y then 0 else -1
theorem z_l_to {x : Int} (h : z_RL x) : (z_l x).toInt = x := Int64.toInt_ofInt_of_le h.1 h.2
theorem z_lcmp {x y : Int} (hx : z_RL x) (hy : z_RL y) : lg_cmp (z_l x) (z_l y) = z_i (z_cmp x y) := by
  unfold lg_cmp z_cmp
  have e1 : z_l y < z_l x ↔ y < x := by rw [Int64.lt_iff_toInt_lt, z_l_to hx, z_l_to hy]
  have e2 : z_l x = z_l y ↔ x = y := by rw [← Int64.toInt_inj, z_l_to hx, z_l_to hy]
  by_cases h1 : y < x
  · rw [if_pos h1, if_pos (e1.mpr h1)]; rfl
  · rw [if_neg h1, if_neg (fun q => h1 (e1.mp q))]
    by_cases h2 : x = y
    · rw [if_pos h2, if_pos (e2.mpr h2)]; rfl
    · rw [if_neg h2, if_neg (fun q => h2 (e2.mp q))]; rfl
theorem V_lcmp {Γ : z_C} {M : z_M} {a : Nat × Nat × Nat} {pc : Nat} {L st : List (Nat × Int)} {h : z_H} {x z : Int} (X : z_Ok Γ M) (d : decode M.2.1 pc = .ok (.lcmp, 1)) (h1 : z_RL x) (h2 : z_RL z) (k : z_V Γ a (pc + 1) L ((0, z_cmp x z) :: st) h) : z_V Γ a pc L ((1, z) :: (1, x) :: st) h := by
  obtain ⟨p, l, e, R, s, m, args, below, meth, c, Q, D, ca, base⟩ := Γ
  obtain ⟨y, cc, nL, ret, fr, lo, rc, rs⟩ := M
  obtain ⟨n, cells, slots⟩ := a
  obtain ⟨hx, hb, hml, hown, hts, hlk, hrt, hfr, hlo, hrc, hrs, hK, hbs, hnm⟩ := X
  intro H locs ls hW hS hL
  have kk := k H locs ls hW hS hL
  rw [List.map_cons, z_v_int, ← z_lcmp h1 h2] at kk
  exact W.lcmp hx hb d kk
theorem V_dup {Γ : z_C} {M : z_M} {a : Nat × Nat × Nat} {pc : Nat} {L st : List (Nat × Int)} {h : z_H} {q : Nat × Int} (X : z_Ok Γ M) (d : decode M.2.1 pc = .ok (.dup, 1)) (hq : q.1 ≠ 1) (k : z_V Γ a (pc + 1) L (q :: q :: st) h) : z_V Γ a pc L (q :: st) h := by
  obtain ⟨p, l, e, R, s, m, args, below, meth, c, Q, D, ca, base⟩ := Γ
  obtain ⟨y, cc, nL, ret, fr, lo, rc, rs⟩ := M
  obtain ⟨n, cells, slots⟩ := a
  obtain ⟨hx, hb, hml, hown, hts, hlk, hrt, hfr, hlo, hrc, hrs, hK, hbs, hnm⟩ := X
  intro H locs ls hW hS hL
  exact lv_dup hx hb d (by rw [z_cat, if_neg hq]) (k H locs ls hW hS hL)
theorem V_goto {Γ : z_C} {M : z_M} {a : Nat × Nat × Nat} {pc : Nat} {L st : List (Nat × Int)} {h : z_H} {off : Int} (X : z_Ok Γ M) (tgt : Nat) (d : decode M.2.1 pc = .ok (.goto off, 3)) (ht : (pc : Int) + off = (tgt : Int)) (k : z_V Γ a tgt L st h) : z_V Γ a pc L st h := by
  obtain ⟨p, l, e, R, s, m, args, below, meth, c, Q, D, ca, base⟩ := Γ
  obtain ⟨y, cc, nL, ret, fr, lo, rc, rs⟩ := M
  obtain ⟨n, cells, slots⟩ := a
  obtain ⟨hx, hb, hml, hown, hts, hlk, hrt, hfr, hlo, hrc, hrs, hK, hbs, hnm⟩ := X
  intro H locs ls hW hS hL
  exact lv_goto (tgt := tgt) hx hb d ht (k H locs ls hW hS hL)
theorem V_icmp_eq {Γ : z_C} {M : z_M} {a : Nat × Nat × Nat} {pc : Nat} {L st : List (Nat × Int)} {h : z_H} {x z off : Int} (X : z_Ok Γ M) (tgt : Nat) (d : decode M.2.1 pc = .ok (.if_icmp .eq off, 3)) (ht : (pc : Int) + off = (tgt : Int)) (h1 : z_R x) (h2 : z_R z) (kt : x = z → z_V Γ a tgt L st h) (kf : ¬ x = z → z_V Γ a (pc + 3) L st h) : z_V Γ a pc L ((0, z) :: (0, x) :: st) h := by
  obtain ⟨p, l, e, R, s, m, args, below, meth, c, Q, D, ca, base⟩ := Γ
  obtain ⟨y, cc, nL, ret, fr, lo, rc, rs⟩ := M
  obtain ⟨n, cells, slots⟩ := a
  obtain ⟨hx, hb, hml, hown, hts, hlk, hrt, hfr, hlo, hrc, hrs, hK, hbs, hnm⟩ := X
  intro H locs ls hW hS hL
  exact lv_icmp_eq (tgt := tgt) hx hb d ht (fun q => kt ((z_i_eq h1 h2).mp q) H locs ls hW hS hL) (fun q => kf (fun q2 => q ((z_i_eq h1 h2).mpr q2)) H locs ls hW hS hL)
theorem V_if_eq {Γ : z_C} {M : z_M} {a : Nat × Nat × Nat} {pc : Nat} {L st : List (Nat × Int)} {h : z_H} {x off : Int} (X : z_Ok Γ M) (tgt : Nat) (d : decode M.2.1 pc = .ok (.ifCond .eq off, 3)) (ht : (pc : Int) + off = (tgt : Int)) (h1 : z_R x) (kt : x = 0 → z_V Γ a tgt L st h) (kf : ¬ x = 0 → z_V Γ a (pc + 3) L st h) : z_V Γ a pc L ((0, x) :: st) h := by
  obtain ⟨p, l, e, R, s, m, args, below, meth, c, Q, D, ca, base⟩ := Γ
  obtain ⟨y, cc, nL, ret, fr, lo, rc, rs⟩ := M
  obtain ⟨n, cells, slots⟩ := a
  obtain ⟨hx, hb, hml, hown, hts, hlk, hrt, hfr, hlo, hrc, hrs, hK, hbs, hnm⟩ := X
  intro H locs ls hW hS hL
  exact lv_if_eq (tgt := tgt) hx hb d ht (fun q => kt ((z_i_eq h1 z_R0).mp q) H locs ls hW hS hL) (fun q => kf (fun q2 => q ((z_i_eq h1 z_R0).mpr q2)) H locs ls hW hS hL)
theorem V_icmp_ne {Γ : z_C} {M : z_M} {a : Nat × Nat × Nat} {pc : Nat} {L st : List (Nat × Int)} {h : z_H} {x z off : Int} (X : z_Ok Γ M) (tgt : Nat) (d : decode M.2.1 pc = .ok (.if_icmp .ne off, 3)) (ht : (pc : Int) + off = (tgt : Int)) (h1 : z_R x) (h2 : z_R z) (kt : ¬ x = z → z_V Γ a tgt L st h) (kf : x = z → z_V Γ a (pc + 3) L st h) : z_V Γ a pc L ((0, z) :: (0, x) :: st) h := by
  obtain ⟨p, l, e, R, s, m, args, below, meth, c, Q, D, ca, base⟩ := Γ
  obtain ⟨y, cc, nL, ret, fr, lo, rc, rs⟩ := M
  obtain ⟨n, cells, slots⟩ := a
  obtain ⟨hx, hb, hml, hown, hts, hlk, hrt, hfr, hlo, hrc, hrs, hK, hbs, hnm⟩ := X
  intro H locs ls hW hS hL
  exact lv_icmp_ne (tgt := tgt) hx hb d ht (fun q => kt (fun q2 => q ((z_i_eq h1 h2).mpr q2)) H locs ls hW hS hL) (fun q => kf ((z_i_eq h1 h2).mp q) H locs ls hW hS hL)
theorem V_if_ne {Γ : z_C} {M : z_M} {a : Nat × Nat × Nat} {pc : Nat} {L st : List (Nat × Int)} {h : z_H} {x off : Int} (X : z_Ok Γ M) (tgt : Nat) (d : decode M.2.1 pc = .ok (.ifCond .ne off, 3)) (ht : (pc : Int) + off = (tgt : Int)) (h1 : z_R x) (kt : ¬ x = 0 → z_V Γ a tgt L st h) (kf : x = 0 → z_V Γ a (pc + 3) L st h) : z_V Γ a pc L ((0, x) :: st) h := by
  obtain ⟨p, l, e, R, s, m, args, below, meth, c, Q, D, ca, base⟩ := Γ
  obtain ⟨y, cc, nL, ret, fr, lo, rc, rs⟩ := M
  obtain ⟨n, cells, slots⟩ := a
  obtain ⟨hx, hb, hml, hown, hts, hlk, hrt, hfr, hlo, hrc, hrs, hK, hbs, hnm⟩ := X
  intro H locs ls hW hS hL
  exact lv_if_ne (tgt := tgt) hx hb d ht (fun q => kt (fun q2 => q ((z_i_eq h1 z_R0).mpr q2)) H locs ls hW hS hL) (fun q => kf ((z_i_eq h1 z_R0).mp q) H locs ls hW hS hL)
theorem V_icmp_lt {Γ : z_C} {M : z_M} {a : Nat × Nat × Nat} {pc : Nat} {L st : List (Nat × Int)} {h : z_H} {x z off : Int} (X : z_Ok Γ M) (tgt : Nat) (d : decode M.2.1 pc = .ok (.if_icmp .lt off, 3)) (ht : (pc : Int) + off = (tgt : Int)) (h1 : z_R x) (h2 : z_R z) (kt : x < z → z_V Γ a tgt L st h) (kf : ¬ x < z → z_V Γ a (pc + 3) L st h) : z_V Γ a pc L ((0, z) :: (0, x) :: st) h := by
  obtain ⟨p, l, e, R, s, m, args, below, meth, c, Q, D, ca, base⟩ := Γ
  obtain ⟨y, cc, nL, ret, fr, lo, rc, rs⟩ := M
  obtain ⟨n, cells, slots⟩ := a
  obtain ⟨hx, hb, hml, hown, hts, hlk, hrt, hfr, hlo, hrc, hrs, hK, hbs, hnm⟩ := X
  intro H locs ls hW hS hL
  exact lv_icmp_lt (tgt := tgt) hx hb d ht (fun q => kt ((z_i_lt h1 h2).mp q) H locs ls hW hS hL) (fun q => kf (fun q2 => q ((z_i_lt h1 h2).mpr q2)) H locs ls hW hS hL)
theorem V_if_lt {Γ : z_C} {M : z_M} {a : Nat × Nat × Nat} {pc : Nat} {L st : List (Nat × Int)} {h : z_H} {x off : Int} (X : z_Ok Γ M) (tgt : Nat) (d : decode M.2.1 pc = .ok (.ifCond .lt off, 3)) (ht : (pc : Int) + off = (tgt : Int)) (h1 : z_R x) (kt : x < 0 → z_V Γ a tgt L st h) (kf : ¬ x < 0 → z_V Γ a (pc + 3) L st h) : z_V Γ a pc L ((0, x) :: st) h := by
  obtain ⟨p, l, e, R, s, m, args, below, meth, c, Q, D, ca, base⟩ := Γ
  obtain ⟨y, cc, nL, ret, fr, lo, rc, rs⟩ := M
  obtain ⟨n, cells, slots⟩ := a
  obtain ⟨hx, hb, hml, hown, hts, hlk, hrt, hfr, hlo, hrc, hrs, hK, hbs, hnm⟩ := X
  intro H locs ls hW hS hL
  exact lv_if_lt (tgt := tgt) hx hb d ht (fun q => kt ((z_i_lt h1 z_R0).mp q) H locs ls hW hS hL) (fun q => kf (fun q2 => q ((z_i_lt h1 z_R0).mpr q2)) H locs ls hW hS hL)
theorem V_icmp_ge {Γ : z_C} {M : z_M} {a : Nat × Nat × Nat} {pc : Nat} {L st : List (Nat × Int)} {h : z_H} {x z off : Int} (X : z_Ok Γ M) (tgt : Nat) (d : decode M.2.1 pc = .ok (.if_icmp .ge off, 3)) (ht : (pc : Int) + off = (tgt : Int)) (h1 : z_R x) (h2 : z_R z) (kt : z ≤ x → z_V Γ a tgt L st h) (kf : ¬ z ≤ x → z_V Γ a (pc + 3) L st h) : z_V Γ a pc L ((0, z) :: (0, x) :: st) h := by
  obtain ⟨p, l, e, R, s, m, args, below, meth, c, Q, D, ca, base⟩ := Γ
  obtain ⟨y, cc, nL, ret, fr, lo, rc, rs⟩ := M
  obtain ⟨n, cells, slots⟩ := a
  obtain ⟨hx, hb, hml, hown, hts, hlk, hrt, hfr, hlo, hrc, hrs, hK, hbs, hnm⟩ := X
  intro H locs ls hW hS hL
  exact lv_icmp_ge (tgt := tgt) hx hb d ht (fun q => kt ((z_i_le h2 h1).mp q) H locs ls hW hS hL) (fun q => kf (fun q2 => q ((z_i_le h2 h1).mpr q2)) H locs ls hW hS hL)
theorem V_if_ge {Γ : z_C} {M : z_M} {a : Nat × Nat × Nat} {pc : Nat} {L st : List (Nat × Int)} {h : z_H} {x off : Int} (X : z_Ok Γ M) (tgt : Nat) (d : decode M.2.1 pc = .ok (.ifCond .ge off, 3)) (ht : (pc : Int) + off = (tgt : Int)) (h1 : z_R x) (kt : 0 ≤ x → z_V Γ a tgt L st h) (kf : ¬ 0 ≤ x → z_V Γ a (pc + 3) L st h) : z_V Γ a pc L ((0, x) :: st) h := by
  obtain ⟨p, l, e, R, s, m, args, below, meth, c, Q, D, ca, base⟩ := Γ
  obtain ⟨y, cc, nL, ret, fr, lo, rc, rs⟩ := M
  obtain ⟨n, cells, slots⟩ := a
  obtain ⟨hx, hb, hml, hown, hts, hlk, hrt, hfr, hlo, hrc, hrs, hK, hbs, hnm⟩ := X
  intro H locs ls hW hS hL
  exact lv_if_ge (tgt := tgt) hx hb d ht (fun q => kt ((z_i_le z_R0 h1).mp q) H locs ls hW hS hL) (fun q => kf (fun q2 => q ((z_i_le z_R0 h1).mpr q2)) H locs ls hW hS hL)
theorem V_icmp_gt {Γ : z_C} {M : z_M} {a : Nat × Nat × Nat} {pc : Nat} {L st : List (Nat × Int)} {h : z_H} {x z off : Int} (X : z_Ok Γ M) (tgt : Nat) (d : decode M.2.1 pc = .ok (.if_icmp .gt off, 3)) (ht : (pc : Int) + off = (tgt : Int)) (h1 : z_R x) (h2 : z_R z) (kt : z < x → z_V Γ a tgt L st h) (kf : ¬ z < x → z_V Γ a (pc + 3) L st h) : z_V Γ a pc L ((0, z) :: (0, x) :: st) h := by
  obtain ⟨p, l, e, R, s, m, args, below, meth, c, Q, D, ca, base⟩ := Γ
  obtain ⟨y, cc, nL, ret, fr, lo, rc, rs⟩ := M
  obtain ⟨n, cells, slots⟩ := a
  obtain ⟨hx, hb, hml, hown, hts, hlk, hrt, hfr, hlo, hrc, hrs, hK, hbs, hnm⟩ := X
  intro H locs ls hW hS hL
  exact lv_icmp_gt (tgt := tgt) hx hb d ht (fun q => kt ((z_i_lt h2 h1).mp q) H locs ls hW hS hL) (fun q => kf (fun q2 => q ((z_i_lt h2 h1).mpr q2)) H locs ls hW hS hL)
theorem V_if_gt {Γ : z_C} {M : z_M} {a : Nat × Nat × Nat} {pc : Nat} {L st : List (Nat × Int)} {h : z_H} {x off : Int} (X : z_Ok Γ M) (tgt : Nat) (d : decode M.2.1 pc = .ok (.ifCond .gt off, 3)) (ht : (pc : Int) + off = (tgt : Int)) (h1 : z_R x) (kt : 0 < x → z_V Γ a tgt L st h) (kf : ¬ 0 < x → z_V Γ a (pc + 3) L st h) : z_V Γ a pc L ((0, x) :: st) h := by
  obtain ⟨p, l, e, R, s, m, args, below, meth, c, Q, D, ca, base⟩ := Γ
  obtain ⟨y, cc, nL, ret, fr, lo, rc, rs⟩ := M
  obtain ⟨n, cells, slots⟩ := a
  obtain ⟨hx, hb, hml, hown, hts, hlk, hrt, hfr, hlo, hrc, hrs, hK, hbs, hnm⟩ := X
  intro H locs ls hW hS hL
  exact lv_if_gt (tgt := tgt) hx hb d ht (fun q => kt ((z_i_lt z_R0 h1).mp q) H locs ls hW hS hL) (fun q => kf (fun q2 => q ((z_i_lt z_R0 h1).mpr q2)) H locs ls hW hS hL)
theorem V_icmp_le {Γ : z_C} {M : z_M} {a : Nat × Nat × Nat} {pc : Nat} {L st : List (Nat × Int)} {h : z_H} {x z off : Int} (X : z_Ok Γ M) (tgt : Nat) (d : decode M.2.1 pc = .ok (.if_icmp .le off, 3)) (ht : (pc : Int) + off = (tgt : Int)) (h1 : z_R x) (h2 : z_R z) (kt : x ≤ z → z_V Γ a tgt L st h) (kf : ¬ x ≤ z → z_V Γ a (pc + 3) L st h) : z_V Γ a pc L ((0, z) :: (0, x) :: st) h := by
  obtain ⟨p, l, e, R, s, m, args, below, meth, c, Q, D, ca, base⟩ := Γ
  obtain ⟨y, cc, nL, ret, fr, lo, rc, rs⟩ := M
  obtain ⟨n, cells, slots⟩ := a
  obtain ⟨hx, hb, hml, hown, hts, hlk, hrt, hfr, hlo, hrc, hrs, hK, hbs, hnm⟩ := X
  intro H locs ls hW hS hL
  exact lv_icmp_le (tgt := tgt) hx hb d ht (fun q => kt ((z_i_le h1 h2).mp q) H locs ls hW hS hL) (fun q => kf (fun q2 => q ((z_i_le h1 h2).mpr q2)) H locs ls hW hS hL)
theorem V_if_le {Γ : z_C} {M : z_M} {a : Nat × Nat × Nat} {pc : Nat} {L st : List (Nat × Int)} {h : z_H} {x off : Int} (X : z_Ok Γ M) (tgt : Nat) (d : decode M.2.1 pc = .ok (.ifCond .le off, 3)) (ht : (pc : Int) + off = (tgt : Int)) (h1 : z_R x) (kt : x ≤ 0 → z_V Γ a tgt L st h) (kf : ¬ x ≤ 0 → z_V Γ a (pc + 3) L st h) : z_V Γ a pc L ((0, x) :: st) h := by
  obtain ⟨p, l, e, R, s, m, args, below, meth, c, Q, D, ca, base⟩ := Γ
  obtain ⟨y, cc, nL, ret, fr, lo, rc, rs⟩ := M
  obtain ⟨n, cells, slots⟩ := a
  obtain ⟨hx, hb, hml, hown, hts, hlk, hrt, hfr, hlo, hrc, hrs, hK, hbs, hnm⟩ := X
  intro H locs ls hW hS hL
  exact lv_if_le (tgt := tgt) hx hb d ht (fun q => kt ((z_i_le h1 z_R0).mp q) H locs ls hW hS hL) (fun q => kf (fun q2 => q ((z_i_le h1 z_R0).mpr q2)) H locs ls hW hS hL)
theorem V_tswIn {Γ : z_C} {M : z_M} {a : Nat × Nat × Nat} {pc : Nat} {L st : List (Nat × Int)} {h : z_H} {x v dflt lo0 hi0 off : Int} {offs : Array Int} {len : Nat} (X : z_Ok Γ M) (tgt : Nat) (d : decode M.2.1 pc = .ok (.tableswitch dflt lo0 hi0 offs, len)) (exv : x = v) (h1 : z_R v) (h2 : ¬ v < lo0) (h3 : ¬ hi0 < v) (ho : offs[(v - lo0).toNat]? = some off) (ht : (pc : Int) + off = (tgt : Int)) (k : z_V Γ a tgt L st h) : z_V Γ a pc L ((0, x) :: st) h := by
  obtain ⟨p, l, e, R, s, m, args, below, meth, c, Q, D, ca, base⟩ := Γ
  obtain ⟨y, cc, nL, ret, fr, lo, rc, rs⟩ := M
  obtain ⟨n, cells, slots⟩ := a
  obtain ⟨hx, hb, hml, hown, hts, hlk, hrt, hfr, hlo, hrc, hrs, hK, hbs, hnm⟩ := X
  intro H locs ls hW hS hL
  subst exv
  have e := z_i_to h1
  exact lv_tableIn (tgt := tgt) (off := off) hx hb d (by rw [e]; exact h2) (by rw [e]; exact h3) (by rw [e]; exact ho) ht (k H locs ls hW hS hL)
theorem V_tswOut {Γ : z_C} {M : z_M} {a : Nat × Nat × Nat} {pc : Nat} {L st : List (Nat × Int)} {h : z_H} {x dflt lo0 hi0 : Int} {offs : Array Int} {len : Nat} (X : z_Ok Γ M) (tgt : Nat) (d : decode M.2.1 pc = .ok (.tableswitch dflt lo0 hi0 offs, len)) (h1 : z_R x) (h2 : x < lo0 ∨ hi0 < x) (ht : (pc : Int) + dflt = (tgt : Int)) (k : z_V Γ a tgt L st h) : z_V Γ a pc L ((0, x) :: st) h := by
  obtain ⟨p, l, e, R, s, m, args, below, meth, c, Q, D, ca, base⟩ := Γ
  obtain ⟨y, cc, nL, ret, fr, lo, rc, rs⟩ := M
  obtain ⟨n, cells, slots⟩ := a
  obtain ⟨hx, hb, hml, hown, hts, hlk, hrt, hfr, hlo, hrc, hrs, hK, hbs, hnm⟩ := X
  intro H locs ls hW hS hL
  have e := z_i_to h1
  exact lv_tableOut (tgt := tgt) hx hb d (by rw [e]; exact h2) ht (k H locs ls hW hS hL)
theorem V_lsw {Γ : z_C} {M : z_M} {a : Nat × Nat × Nat} {pc : Nat} {L st : List (Nat × Int)} {h : z_H} {x dflt off : Int} {ps : Array (Int × Int)} {len : Nat} (X : z_Ok Γ M) (tgt : Nat) (d : decode M.2.1 pc = .ok (.lookupswitch dflt ps, len)) (h1 : z_R x) (hp : (ps.toList.zip (ps.toList.drop 1)).all (fun (a, next) => a.1 < next.1) = true) (ho : Op.lookupswitch.offset ps.toList dflt x = off) (ht : (pc : Int) + off = (tgt : Int)) (k : z_V Γ a tgt L st h) : z_V Γ a pc L ((0, x) :: st) h := by
  obtain ⟨p, l, e, R, s, m, args, below, meth, c, Q, D, ca, base⟩ := Γ
  obtain ⟨y, cc, nL, ret, fr, lo, rc, rs⟩ := M
  obtain ⟨n, cells, slots⟩ := a
  obtain ⟨hx, hb, hml, hown, hts, hlk, hrt, hfr, hlo, hrc, hrs, hK, hbs, hnm⟩ := X
  intro H locs ls hW hS hL
  have e := z_i_to h1
  exact lv_lookup (tgt := tgt) (off := off) hx hb d hp (by rw [e]; exact ho) ht (k H locs ls hW hS hL)
end
section
/-! THE CALCULUS, 4: rows for fields, arrays, answers, calls, new cells -/
/-- entry idx of the pool of own is field j of kind ci, of tag t, final or not -/
def z_F (own : String) (idx ci j t : Nat) (fin : Bool) : Prop := ∃ (C : String) (T : u_T), vwCl[ci]? = some (C, T, z_nf ci) ∧ j < z_nf ci ∧ (∀ w ∈ u_ws C T (z_nf ci), w ∈ z_gw) ∧ (∀ k, k < z_nf ci → parseFieldDescriptor (T k).2.2.1 = some (z_ty ci k)) ∧ (∀ a, a < z_nf ci → ∀ b, b < z_nf ci → a ≠ b → (T a).2.1 ≠ (T b).2.1) ∧ Cond.fieldLink own idx (T j).1 (T j).2.1 (T j).2.2.1 ∈ z_gw ∧ (T j).2.2.2 = fin ∧ z_tag (z_ty ci j) = t ∧ (T j).1 = C
theorem V_get {Γ : z_C} {M : z_M} {a : Nat × Nat × Nat} {pc : Nat} {L st : List (Nat × Int)} {h : z_H} {idx ci j t : Nat} {fin : Bool} {k v : Int} (X : z_Ok Γ M) (d : decode M.2.1 pc = .ok (.getfield idx, 3)) (f : z_F M.1.cls idx ci j t fin) (hk : z_kd a.1 k = (0, ci)) (hv : h k j = v) (kk : z_V Γ a (pc + 3) L ((t, v) :: st) h) : z_V Γ a pc L ((2, k) :: st) h := by
  obtain ⟨p, l, e, R, s, m, args, below, meth, c, Q, D, ca, base⟩ := Γ
  obtain ⟨y, cc, nL, ret, fr, lo, rc, rs⟩ := M
  obtain ⟨n, cells, slots⟩ := a
  obtain ⟨hx, hb, hml, hown, hts, hlk, hrt, hfr, hlo, hrc, hrs, hK, hbs, hnm⟩ := X
  intro H locs ls hW hS hL
  obtain ⟨C, T, f1, f2, f3, f4, f5, f6, f7, f8, f9⟩ := f
  have k0 := (z_kd_spec hk (Nat.ne_of_beq_eq_false rfl)).1
  have kk := kk H locs ls hW hS hL
  rw [List.map_cons, z_v_ref k0]
  refine va_get (D := D) (ci := ci) (v := z_v base (t, v)) (C := C) (T := T) (N := z_nf ci) hx hb hts f3 hown hK.1 hW.2 k.toNat (z_w_at hk (Nat.ne_of_beq_eq_false rfl)) f1 j f2 (hts _ f6) (fun _ h9 => h9) ?_ d kk
  show (z_fs base ci (h k))[j]? = _
  rw [z_fs_at f2, f8, hv]
theorem z_fitR (base : Nat) (z : Int) {ty : FieldType} (h : z_tag ty = 2) : narrow ty (z_v base (2, z)) = z_v base (2, z) ∧ fits ty (z_v base (2, z)) = true := by
  show narrow ty (va_rf (z_on base z)) = va_rf (z_on base z) ∧ fits ty (va_rf (z_on base z)) = true
  cases ty <;> first | (exact absurd h (by decide)) | (unfold z_on; split <;> exact ⟨rfl, rfl⟩)
theorem z_fitI (base : Nat) (z : Int) : narrow .int (z_v base (0, z)) = z_v base (0, z) ∧ fits .int (z_v base (0, z)) = true := ⟨rfl, rfl⟩
theorem z_fitL (base : Nat) (z : Int) : narrow .long (z_v base (1, z)) = z_v base (1, z) ∧ fits .long (z_v base (1, z)) = true := ⟨rfl, rfl⟩
theorem z_fitZ (base : Nat) {z : Int} (h : z = 0 ∨ z = 1) : narrow .boolean (z_v base (0, z)) = z_v base (0, z) ∧ fits .boolean (z_v base (0, z)) = true := by
  rcases h with rfl | rfl <;> exact ⟨rfl, rfl⟩
/-- a value that a field of that type takes as it is -/
def z_Fit (ty : FieldType) (t : Nat) (v : Int) : Prop := ∀ base : Nat, narrow ty (z_v base (t, v)) = z_v base (t, v) ∧ fits ty (z_v base (t, v)) = true
theorem V_put {Γ : z_C} {M : z_M} {a : Nat × Nat × Nat} {pc : Nat} {L st : List (Nat × Int)} {h : z_H} {idx ci j t : Nat} {k v : Int} (X : z_Ok Γ M) (d : decode M.2.1 pc = .ok (.putfield idx, 3)) (f : z_F M.1.cls idx ci j t false) (hk : z_kd a.1 k = (0, ci)) (hf : z_Fit (z_ty ci j) t v) (kk : z_V Γ a (pc + 3) L st (z_st h k j v)) : z_V Γ a pc L ((t, v) :: (2, k) :: st) h := by
  obtain ⟨p, l, e, R, s, m, args, below, meth, c, Q, D, ca, base⟩ := Γ
  obtain ⟨y, cc, nL, ret, fr, lo, rc, rs⟩ := M
  obtain ⟨n, cells, slots⟩ := a
  obtain ⟨hx, hb, hml, hown, hts, hlk, hrt, hfr, hlo, hrc, hrs, hK, hbs, hnm⟩ := X
  intro H locs ls hW hS hL
  obtain ⟨C, T, f1, f2, f3, f4, f5, f6, f7, f8, f9⟩ := f
  have k0 := (z_kd_spec hk (Nat.ne_of_beq_eq_false rfl)).1
  rw [List.map_cons, List.map_cons, z_v_ref k0]
  refine va_put (D := D) (ci := ci) (v := z_v base (t, v)) (ty := z_ty ci j) (C := C) (T := T) (N := z_nf ci) hx hb hts f3 (z_ty ci) f4 f5 hown hK.1 hW.2 (z_D ca base n h) hS k.toNat (z_w_at hk (Nat.ne_of_beq_eq_false rfl)) f1 j f2 (hts _ f6) (fun _ h9 => h9) f7 (f4 j f2) (hf base).1 (hf base).2 (by show j < (z_fs base ci (h k)).length; rw [z_fs_len]; exact f2) d (fun H1 locs1 hP1 hD1 hS1 => ?_)
  refine kk H1 locs1 ls ?_ hS1 hL
  have e : (z_w ca base n h).set k.toNat (base + k.toNat, .inr (ci, (z_fs base ci (h k)).set j (z_v base (t, v)))) = z_w ca base n (z_st h k j v) := by
    refine z_w_set hk (Nat.ne_of_beq_eq_false rfl) ?_ (fun q hq => z_st_cell h hq)
    show Sum.inr (ci, z_fs base ci (z_st h k j v k)) = _
    rw [← f8, z_fs_set f2 (z_st_at h k j v) (fun r hr => z_st_slot h hr)]
  exact ⟨hW.1, by show va_P _ _ _ _; rw [← e]; exact hP1⟩
theorem V_putF {Γ : z_C} {M : z_M} {a : Nat × Nat × Nat} {pc : Nat} {L st : List (Nat × Int)} {h : z_H} {idx ci j t : Nat} {k v : Int} (X : z_Ok Γ M) (d : decode M.2.1 pc = .ok (.putfield idx, 3)) (f : z_F M.1.cls idx ci j t true) (hin : M.1.name = "<init>") (hdc : ∀ C T, vwCl[ci]? = some (C, T, z_nf ci) → C = M.1.cls) (hk : z_kd a.1 k = (0, ci)) (hf : z_Fit (z_ty ci j) t v) (kk : z_V Γ a (pc + 3) L st (z_st h k j v)) : z_V Γ a pc L ((t, v) :: (2, k) :: st) h := by
  obtain ⟨p, l, e, R, s, m, args, below, meth, c, Q, D, ca, base⟩ := Γ
  obtain ⟨y, cc, nL, ret, fr, lo, rc, rs⟩ := M
  obtain ⟨n, cells, slots⟩ := a
  obtain ⟨hx, hb, hml, hown, hts, hlk, hrt, hfr, hlo, hrc, hrs, hK, hbs, hnm⟩ := X
  intro H locs ls hW hS hL
  obtain ⟨C, T, f1, f2, f3, f4, f5, f6, f7, f8, f9⟩ := f
  have k0 := (z_kd_spec hk (Nat.ne_of_beq_eq_false rfl)).1
  rw [List.map_cons, List.map_cons, z_v_ref k0]
  refine va_putF (D := D) (ci := ci) (v := z_v base (t, v)) (ty := z_ty ci j) (C := C) (T := T) (N := z_nf ci) hx hb hts f3 (z_ty ci) f4 f5 hown hK.1 hW.2 (z_D ca base n h) hS k.toNat (z_w_at hk (Nat.ne_of_beq_eq_false rfl)) f1 j f2 (hts _ f6) (fun _ h9 => h9) f7 (hnm.trans hin) (f9.trans (hdc C T f1)) (f4 j f2) (hf base).1 (hf base).2 (by show j < (z_fs base ci (h k)).length; rw [z_fs_len]; exact f2) d (fun H1 locs1 hP1 hD1 hS1 => ?_)
  refine kk H1 locs1 ls ?_ hS1 hL
  have e : (z_w ca base n h).set k.toNat (base + k.toNat, .inr (ci, (z_fs base ci (h k)).set j (z_v base (t, v)))) = z_w ca base n (z_st h k j v) := by
    refine z_w_set hk (Nat.ne_of_beq_eq_false rfl) ?_ (fun q hq => z_st_cell h hq)
    show Sum.inr (ci, z_fs base ci (z_st h k j v k)) = _
    rw [← f8, z_fs_set f2 (z_st_at h k j v) (fun r hr => z_st_slot h hr)]
  exact ⟨hW.1, by show va_P _ _ _ _; rw [← e]; exact hP1⟩
theorem V_iald {Γ : z_C} {M : z_M} {a : Nat × Nat × Nat} {pc : Nat} {L st : List (Nat × Int)} {h : z_H} {N : Nat} {k i : Int} (X : z_Ok Γ M) (d : decode M.2.1 pc = .ok (.iaload, 1)) (hk : z_kd a.1 k = (1, N)) (h0 : 0 ≤ i) (h1 : i < N) (hN : N < 2147483648) (kk : z_V Γ a (pc + 1) L ((0, h k i) :: st) h) : z_V Γ a pc L ((0, i) :: (2, k) :: st) h := by
  obtain ⟨p, l, e, R, s, m, args, below, meth, c, Q, D, ca, base⟩ := Γ
  obtain ⟨y, cc, nL, ret, fr, lo, rc, rs⟩ := M
  obtain ⟨n, cells, slots⟩ := a
  obtain ⟨hx, hb, hml, hown, hts, hlk, hrt, hfr, hlo, hrc, hrs, hK, hbs, hnm⟩ := X
  intro H locs ls hW hS hL
  have k0 := (z_kd_spec hk (Nat.ne_of_beq_eq_false rfl)).1
  have kk := kk H locs ls hW hS hL
  obtain ⟨g1, g2, g3⟩ := z_in h0 h1 hN
  rw [List.map_cons, List.map_cons, z_v_ref k0]
  refine va_iald (D := D) (cA := ca 1) (n := N) (f := fun j => z_i (h k j)) hx hb hK.1 hW.2 k.toNat 0 (z_w_at hk (Nat.ne_of_beq_eq_false rfl)) rfl g1 d ?_
  rw [g2]
  show W _ _ _ _ _ _ _ _ _ _ _ _ _ _ _ (F0 m (pc + 1) ls (.int (z_i (h k ((i.toNat : Nat) : Int))) :: _))
  rw [g3]
  exact kk
theorem V_bald {Γ : z_C} {M : z_M} {a : Nat × Nat × Nat} {pc : Nat} {L st : List (Nat × Int)} {h : z_H} {N : Nat} {k i : Int} (X : z_Ok Γ M) (d : decode M.2.1 pc = .ok (.baload, 1)) (hk : z_kd a.1 k = (2, N)) (h0 : 0 ≤ i) (h1 : i < N) (hN : N < 2147483648) (kk : z_V Γ a (pc + 1) L ((0, h k i) :: st) h) : z_V Γ a pc L ((0, i) :: (2, k) :: st) h := by
  obtain ⟨p, l, e, R, s, m, args, below, meth, c, Q, D, ca, base⟩ := Γ
  obtain ⟨y, cc, nL, ret, fr, lo, rc, rs⟩ := M
  obtain ⟨n, cells, slots⟩ := a
  obtain ⟨hx, hb, hml, hown, hts, hlk, hrt, hfr, hlo, hrc, hrs, hK, hbs, hnm⟩ := X
  intro H locs ls hW hS hL
  have k0 := (z_kd_spec hk (Nat.ne_of_beq_eq_false rfl)).1
  have kk := kk H locs ls hW hS hL
  obtain ⟨g1, g2, g3⟩ := z_in h0 h1 hN
  rw [List.map_cons, List.map_cons, z_v_ref k0]
  refine va_zald (D := D) (cA := ca 2) (n := N) (f := fun j => z_i (h k j)) hx hb hK.1 hW.2 k.toNat 1 (z_w_at hk (Nat.ne_of_beq_eq_false rfl)) rfl g1 d ?_
  rw [g2]
  show W _ _ _ _ _ _ _ _ _ _ _ _ _ _ _ (F0 m (pc + 1) ls (.int (z_i (h k ((i.toNat : Nat) : Int))) :: _))
  rw [g3]
  exact kk
theorem V_aald3 {Γ : z_C} {M : z_M} {a : Nat × Nat × Nat} {pc : Nat} {L st : List (Nat × Int)} {h : z_H} {N : Nat} {k i : Int} (X : z_Ok Γ M) (d : decode M.2.1 pc = .ok (.aaload, 1)) (hk : z_kd a.1 k = (3, N)) (h0 : 0 ≤ i) (h1 : i < N) (hN : N < 2147483648) {v : Int} (hv : h k i = v) (kk : z_V Γ a (pc + 1) L ((2, v) :: st) h) : z_V Γ a pc L ((0, i) :: (2, k) :: st) h := by
  obtain ⟨p, l, e, R, s, m, args, below, meth, c, Q, D, ca, base⟩ := Γ
  obtain ⟨y, cc, nL, ret, fr, lo, rc, rs⟩ := M
  obtain ⟨n, cells, slots⟩ := a
  obtain ⟨hx, hb, hml, hown, hts, hlk, hrt, hfr, hlo, hrc, hrs, hK, hbs, hnm⟩ := X
  intro H locs ls hW hS hL
  have k0 := (z_kd_spec hk (Nat.ne_of_beq_eq_false rfl)).1
  have kk := kk H locs ls hW hS hL
  obtain ⟨g1, g2, g3⟩ := z_in h0 h1 hN
  rw [List.map_cons, List.map_cons, z_v_ref k0]
  refine va_aldq (D := D) (cA := ca 3) (n := N) (f := fun j => z_on base (h k j)) hx hb hK.1 hW.2 k.toNat 2 (z_w_at hk (Nat.ne_of_beq_eq_false rfl)) rfl g1 d ?_
  rw [g2]
  show W _ _ _ _ _ _ _ _ _ _ _ _ _ _ _ (F0 m (pc + 1) ls (va_rf (z_on base (h k ((i.toNat : Nat) : Int))) :: _))
  rw [g3, hv]
  exact kk
theorem V_aast3 {Γ : z_C} {M : z_M} {a : Nat × Nat × Nat} {pc : Nat} {L st : List (Nat × Int)} {h : z_H} {N : Nat} {k i v : Int} (X : z_Ok Γ M) (d : decode M.2.1 pc = .ok (.aastore, 1)) (hk : z_kd a.1 k = (3, N)) (hkv : z_kd a.1 v = (0, 1)) (h0 : 0 ≤ i) (h1 : i < N) (hN : N < 2147483648) (kk : z_V Γ a (pc + 1) L st (z_st h k i v)) : z_V Γ a pc L ((2, v) :: (0, i) :: (2, k) :: st) h := by
  obtain ⟨p, l, e, R, s, m, args, below, meth, c, Q, D, ca, base⟩ := Γ
  obtain ⟨y, cc, nL, ret, fr, lo, rc, rs⟩ := M
  obtain ⟨n, cells, slots⟩ := a
  obtain ⟨hx, hb, hml, hown, hts, hlk, hrt, hfr, hlo, hrc, hrs, hK, hbs, hnm⟩ := X
  intro H locs ls hW hS hL
  have k0 := (z_kd_spec hk (Nat.ne_of_beq_eq_false rfl)).1
  have v0 := (z_kd_spec hkv (Nat.ne_of_beq_eq_false rfl)).1
  obtain ⟨g1, g2, g3⟩ := z_in h0 h1 hN
  rw [List.map_cons, List.map_cons, List.map_cons, z_v_ref k0, z_v_ref v0]
  refine va_astq (D := D) (cA := ca 3) (n := N) (f := fun j => z_on base (h k j)) hx hb hK.1 hW.2 (z_D ca base n h) hS k.toNat 2 v.toNat 1 (z_w_at hk (Nat.ne_of_beq_eq_false rfl)) rfl (z_w_at hkv (Nat.ne_of_beq_eq_false rfl)) rfl g1 d (fun H1 locs1 hP1 hD1 hS1 => ?_)
  refine kk H1 locs1 ls ⟨hW.1, ?_⟩ hS1 hL
  show va_P _ _ _ _
  rw [g2] at hP1
  rw [← z_w_set (ca := ca) (base := base) (h := h) (h' := z_st h k i v) hk (Nat.ne_of_beq_eq_false rfl) rfl (fun q hq => z_st_cell h hq)]
  have e : (fun j : Nat => z_on base (z_st h k i v k j)) = va_up (fun j : Nat => z_on base (h k j)) i.toNat (some (base + v.toNat)) := by
    funext j
    unfold va_up
    by_cases hj : j = i.toNat
    · rw [if_pos hj, hj, g3, z_st_at]
      unfold z_on
      rw [if_neg (by omega)]
    · rw [if_neg hj, z_st_slot h (show (j : Int) ≠ i by omega)]
  show va_P D vwCl ((z_w ca base n h).set k.toNat (base + k.toNat, .inl (ca 3, N, .inr (.inr (.inr (.inr fun j : Nat => z_on base (z_st h k i v k j))))))) H1
  rw [e]
  exact hP1
theorem V_aald4 {Γ : z_C} {M : z_M} {a : Nat × Nat × Nat} {pc : Nat} {L st : List (Nat × Int)} {h : z_H} {N : Nat} {k i : Int} (X : z_Ok Γ M) (d : decode M.2.1 pc = .ok (.aaload, 1)) (hk : z_kd a.1 k = (4, N)) (h0 : 0 ≤ i) (h1 : i < N) (hN : N < 2147483648) {v : Int} (hv : h k i = v) (kk : z_V Γ a (pc + 1) L ((2, v) :: st) h) : z_V Γ a pc L ((0, i) :: (2, k) :: st) h := by
  obtain ⟨p, l, e, R, s, m, args, below, meth, c, Q, D, ca, base⟩ := Γ
  obtain ⟨y, cc, nL, ret, fr, lo, rc, rs⟩ := M
  obtain ⟨n, cells, slots⟩ := a
  obtain ⟨hx, hb, hml, hown, hts, hlk, hrt, hfr, hlo, hrc, hrs, hK, hbs, hnm⟩ := X
  intro H locs ls hW hS hL
  have k0 := (z_kd_spec hk (Nat.ne_of_beq_eq_false rfl)).1
  have kk := kk H locs ls hW hS hL
  obtain ⟨g1, g2, g3⟩ := z_in h0 h1 hN
  rw [List.map_cons, List.map_cons, z_v_ref k0]
  refine va_aldq (D := D) (cA := ca 4) (n := N) (f := fun j => z_on base (h k j)) hx hb hK.1 hW.2 k.toNat 3 (z_w_at hk (Nat.ne_of_beq_eq_false rfl)) rfl g1 d ?_
  rw [g2]
  show W _ _ _ _ _ _ _ _ _ _ _ _ _ _ _ (F0 m (pc + 1) ls (va_rf (z_on base (h k ((i.toNat : Nat) : Int))) :: _))
  rw [g3, hv]
  exact kk
theorem V_aast4 {Γ : z_C} {M : z_M} {a : Nat × Nat × Nat} {pc : Nat} {L st : List (Nat × Int)} {h : z_H} {N : Nat} {k i v : Int} (X : z_Ok Γ M) (d : decode M.2.1 pc = .ok (.aastore, 1)) (hk : z_kd a.1 k = (4, N)) (hkv : z_kd a.1 v = (0, 5)) (h0 : 0 ≤ i) (h1 : i < N) (hN : N < 2147483648) (kk : z_V Γ a (pc + 1) L st (z_st h k i v)) : z_V Γ a pc L ((2, v) :: (0, i) :: (2, k) :: st) h := by
  obtain ⟨p, l, e, R, s, m, args, below, meth, c, Q, D, ca, base⟩ := Γ
  obtain ⟨y, cc, nL, ret, fr, lo, rc, rs⟩ := M
  obtain ⟨n, cells, slots⟩ := a
  obtain ⟨hx, hb, hml, hown, hts, hlk, hrt, hfr, hlo, hrc, hrs, hK, hbs, hnm⟩ := X
  intro H locs ls hW hS hL
  have k0 := (z_kd_spec hk (Nat.ne_of_beq_eq_false rfl)).1
  have v0 := (z_kd_spec hkv (Nat.ne_of_beq_eq_false rfl)).1
  obtain ⟨g1, g2, g3⟩ := z_in h0 h1 hN
  rw [List.map_cons, List.map_cons, List.map_cons, z_v_ref k0, z_v_ref v0]
  refine va_astq (D := D) (cA := ca 4) (n := N) (f := fun j => z_on base (h k j)) hx hb hK.1 hW.2 (z_D ca base n h) hS k.toNat 3 v.toNat 5 (z_w_at hk (Nat.ne_of_beq_eq_false rfl)) rfl (z_w_at hkv (Nat.ne_of_beq_eq_false rfl)) rfl g1 d (fun H1 locs1 hP1 hD1 hS1 => ?_)
  refine kk H1 locs1 ls ⟨hW.1, ?_⟩ hS1 hL
  show va_P _ _ _ _
  rw [g2] at hP1
  rw [← z_w_set (ca := ca) (base := base) (h := h) (h' := z_st h k i v) hk (Nat.ne_of_beq_eq_false rfl) rfl (fun q hq => z_st_cell h hq)]
  have e : (fun j : Nat => z_on base (z_st h k i v k j)) = va_up (fun j : Nat => z_on base (h k j)) i.toNat (some (base + v.toNat)) := by
    funext j
    unfold va_up
    by_cases hj : j = i.toNat
    · rw [if_pos hj, hj, g3, z_st_at]
      unfold z_on
      rw [if_neg (by omega)]
    · rw [if_neg hj, z_st_slot h (show (j : Int) ≠ i by omega)]
  show va_P D vwCl ((z_w ca base n h).set k.toNat (base + k.toNat, .inl (ca 4, N, .inr (.inr (.inr (.inr fun j : Nat => z_on base (z_st h k i v k j))))))) H1
  rw [e]
  exact hP1
theorem V_iast {Γ : z_C} {M : z_M} {a : Nat × Nat × Nat} {pc : Nat} {L st : List (Nat × Int)} {h : z_H} {N : Nat} {k i v : Int} (X : z_Ok Γ M) (d : decode M.2.1 pc = .ok (.iastore, 1)) (hk : z_kd a.1 k = (1, N)) (h0 : 0 ≤ i) (h1 : i < N) (hN : N < 2147483648) (kk : z_V Γ a (pc + 1) L st (z_st h k i v)) : z_V Γ a pc L ((0, v) :: (0, i) :: (2, k) :: st) h := by
  obtain ⟨p, l, e, R, s, m, args, below, meth, c, Q, D, ca, base⟩ := Γ
  obtain ⟨y, cc, nL, ret, fr, lo, rc, rs⟩ := M
  obtain ⟨n, cells, slots⟩ := a
  obtain ⟨hx, hb, hml, hown, hts, hlk, hrt, hfr, hlo, hrc, hrs, hK, hbs, hnm⟩ := X
  intro H locs ls hW hS hL
  have k0 := (z_kd_spec hk (Nat.ne_of_beq_eq_false rfl)).1
  obtain ⟨g1, g2, g3⟩ := z_in h0 h1 hN
  rw [List.map_cons, List.map_cons, List.map_cons, z_v_ref k0]
  refine va_iast (D := D) (cA := ca 1) (n := N) (f := fun j => z_i (h k j)) hx hb hK.1 hW.2 (z_D ca base n h) hS k.toNat 0 (z_w_at hk (Nat.ne_of_beq_eq_false rfl)) rfl g1 d (fun H1 locs1 hP1 hD1 hS1 => ?_)
  refine kk H1 locs1 ls ⟨hW.1, ?_⟩ hS1 hL
  show va_P _ _ _ _
  rw [g2] at hP1
  rw [← z_w_set (ca := ca) (base := base) (h := h) (h' := z_st h k i v) hk (Nat.ne_of_beq_eq_false rfl) rfl (fun q hq => z_st_cell h hq)]
  have e : (fun j : Nat => z_i (z_st h k i v k j)) = upd (fun j : Nat => z_i (h k j)) i.toNat (z_i v) := by
    funext j
    by_cases hj : j = i.toNat
    · rw [hj, pk_us, g3, z_st_at]
    · rw [pk_un hj, z_st_slot h (show (j : Int) ≠ i by omega)]
  show va_P D vwCl ((z_w ca base n h).set k.toNat (base + k.toNat, .inl (ca 1, N, .inl fun j : Nat => z_i (z_st h k i v k j)))) H1
  rw [e]
  exact hP1
theorem V_bast {Γ : z_C} {M : z_M} {a : Nat × Nat × Nat} {pc : Nat} {L st : List (Nat × Int)} {h : z_H} {N : Nat} {k i v : Int} (X : z_Ok Γ M) (d : decode M.2.1 pc = .ok (.bastore, 1)) (hk : z_kd a.1 k = (2, N)) (h0 : 0 ≤ i) (h1 : i < N) (hN : N < 2147483648) (hv : v = 0 ∨ v = 1) (kk : z_V Γ a (pc + 1) L st (z_st h k i v)) : z_V Γ a pc L ((0, v) :: (0, i) :: (2, k) :: st) h := by
  obtain ⟨p, l, e, R, s, m, args, below, meth, c, Q, D, ca, base⟩ := Γ
  obtain ⟨y, cc, nL, ret, fr, lo, rc, rs⟩ := M
  obtain ⟨n, cells, slots⟩ := a
  obtain ⟨hx, hb, hml, hown, hts, hlk, hrt, hfr, hlo, hrc, hrs, hK, hbs, hnm⟩ := X
  intro H locs ls hW hS hL
  have k0 := (z_kd_spec hk (Nat.ne_of_beq_eq_false rfl)).1
  obtain ⟨g1, g2, g3⟩ := z_in h0 h1 hN
  rw [List.map_cons, List.map_cons, List.map_cons, z_v_ref k0]
  refine va_zast (D := D) (cA := ca 2) (n := N) (f := fun j => z_i (h k j)) hx hb hK.1 hW.2 (z_D ca base n h) hS k.toNat 1 (z_w_at hk (Nat.ne_of_beq_eq_false rfl)) rfl g1 d (fun H1 locs1 hP1 hD1 hS1 => ?_)
  refine kk H1 locs1 ls ⟨hW.1, ?_⟩ hS1 hL
  show va_P _ _ _ _
  have ev : vp_nar .boolean (z_i v) = z_i v := by rcases hv with rfl | rfl <;> rfl
  have hP1 : va_P D vwCl ((z_w ca base n h).set k.toNat (base + k.toNat, .inl (ca 2, N, .inl (upd (fun j : Nat => z_i (h k j)) (z_i i).toNatClampNeg (vp_nar .boolean (z_i v)))))) H1 := hP1
  rw [g2, ev] at hP1
  rw [← z_w_set (ca := ca) (base := base) (h := h) (h' := z_st h k i v) hk (Nat.ne_of_beq_eq_false rfl) rfl (fun q hq => z_st_cell h hq)]
  have e : (fun j : Nat => z_i (z_st h k i v k j)) = upd (fun j : Nat => z_i (h k j)) i.toNat (z_i v) := by
    funext j
    by_cases hj : j = i.toNat
    · rw [hj, pk_us, g3, z_st_at]
    · rw [pk_un hj, z_st_slot h (show (j : Int) ≠ i by omega)]
  show va_P D vwCl ((z_w ca base n h).set k.toNat (base + k.toNat, .inl (ca 2, N, .inl fun j : Nat => z_i (z_st h k i v k j)))) H1
  rw [e]
  exact hP1
theorem V_alen {Γ : z_C} {M : z_M} {a : Nat × Nat × Nat} {pc : Nat} {L st : List (Nat × Int)} {h : z_H} {N : Nat} {k : Int} (X : z_Ok Γ M) (d : decode M.2.1 pc = .ok (.arraylength, 1)) (hk : z_kd a.1 k = (1, N)) (kk : z_V Γ a (pc + 1) L ((0, (N : Int)) :: st) h) : z_V Γ a pc L ((2, k) :: st) h := by
  obtain ⟨p, l, e, R, s, m, args, below, meth, c, Q, D, ca, base⟩ := Γ
  obtain ⟨y, cc, nL, ret, fr, lo, rc, rs⟩ := M
  obtain ⟨n, cells, slots⟩ := a
  obtain ⟨hx, hb, hml, hown, hts, hlk, hrt, hfr, hlo, hrc, hrs, hK, hbs, hnm⟩ := X
  intro H locs ls hW hS hL
  have k0 := (z_kd_spec hk (Nat.ne_of_beq_eq_false rfl)).1
  have kk := kk H locs ls hW hS hL
  rw [List.map_cons, z_v_ref k0]
  exact va_alen (D := D) (cA := ca 1) (v := z_i N) hx hb hK.1 hW.2 k.toNat 0 (z_w_at hk (Nat.ne_of_beq_eq_false rfl)) rfl (Int32.ofInt_eq_ofNat).symm d kk
end
section
/-! THE CALCULUS, 5: answers, calls, new cells -/
theorem V_iret {Γ : z_C} {M : z_M} {a : Nat × Nat × Nat} {pc : Nat} {L st : List (Nat × Int)} {h : z_H} {n0 : Nat} {P : Option (Nat × Int) → z_H → Prop} {v : Int} (X : z_Ok Γ M) (hQ : z_RQ Γ M n0 P) (d : decode M.2.1 pc = .ok (.ireturn, 1)) (hr : M.2.2.2.1 = some .int) (ha : a = (n0 + M.2.2.2.2.2.2.1, M.2.2.2.2.2.2.1, M.2.2.2.2.2.2.2)) (hp : P (some (0, v)) h) : z_V Γ a pc L [(0, v)] h := by
  subst ha
  obtain ⟨p, l, e, R, s, m, args, below, meth, c, Q, D, ca, base⟩ := Γ
  obtain ⟨y, cc, nL, ret, fr, lo, rc, rs⟩ := M
  obtain ⟨hx, hb, hml, hown, hts, hlk, hrt, hfr, hlo, hrc, hrs, hK, hbs, hnm⟩ := X
  intro H locs ls hW hS hL
  have hQ : Q = MQ below (z_Qc D ca base (n0 + rc) P) args s rc rs (fun q => base ≤ q) := hQ
  subst hQ
  exact W.iret (v := z_i v) hx hb (hrt.trans hr) (fun t ht hWm => ⟨⟨some (0, v), h, rfl, hp, by rw [ht]; exact hW.2⟩, hS.F ht⟩) hS.2.2 d hlk
theorem V_zret {Γ : z_C} {M : z_M} {a : Nat × Nat × Nat} {pc : Nat} {L st : List (Nat × Int)} {h : z_H} {n0 : Nat} {P : Option (Nat × Int) → z_H → Prop} {v : Int} (X : z_Ok Γ M) (hQ : z_RQ Γ M n0 P) (d : decode M.2.1 pc = .ok (.ireturn, 1)) (hr : M.2.2.2.1 = some .boolean) (hv : v = 0 ∨ v = 1) (ha : a = (n0 + M.2.2.2.2.2.2.1, M.2.2.2.2.2.2.1, M.2.2.2.2.2.2.2)) (hp : P (some (0, v)) h) : z_V Γ a pc L [(0, v)] h := by
  subst ha
  obtain ⟨p, l, e, R, s, m, args, below, meth, c, Q, D, ca, base⟩ := Γ
  obtain ⟨y, cc, nL, ret, fr, lo, rc, rs⟩ := M
  obtain ⟨hx, hb, hml, hown, hts, hlk, hrt, hfr, hlo, hrc, hrs, hK, hbs, hnm⟩ := X
  intro H locs ls hW hS hL
  have hQ : Q = MQ below (z_Qc D ca base (n0 + rc) P) args s rc rs (fun q => base ≤ q) := hQ
  subst hQ
  exact W.zret (v := z_i v) hx hb (hrt.trans hr) (z_fitZ base hv).1 (fun t ht hWm => ⟨⟨some (0, v), h, rfl, hp, by rw [ht]; exact hW.2⟩, hS.F ht⟩) hS.2.2 d hlk
theorem V_lret {Γ : z_C} {M : z_M} {a : Nat × Nat × Nat} {pc : Nat} {L st : List (Nat × Int)} {h : z_H} {n0 : Nat} {P : Option (Nat × Int) → z_H → Prop} {v : Int} (X : z_Ok Γ M) (hQ : z_RQ Γ M n0 P) (d : decode M.2.1 pc = .ok (.lreturn, 1)) (hr : M.2.2.2.1 = some .long) (ha : a = (n0 + M.2.2.2.2.2.2.1, M.2.2.2.2.2.2.1, M.2.2.2.2.2.2.2)) (hp : P (some (1, v)) h) : z_V Γ a pc L [(1, v)] h := by
  subst ha
  obtain ⟨p, l, e, R, s, m, args, below, meth, c, Q, D, ca, base⟩ := Γ
  obtain ⟨y, cc, nL, ret, fr, lo, rc, rs⟩ := M
  obtain ⟨hx, hb, hml, hown, hts, hlk, hrt, hfr, hlo, hrc, hrs, hK, hbs, hnm⟩ := X
  intro H locs ls hW hS hL
  have hQ : Q = MQ below (z_Qc D ca base (n0 + rc) P) args s rc rs (fun q => base ≤ q) := hQ
  subst hQ
  exact W.lret (v := z_l v) hx hb (hrt.trans hr) (fun t ht hWm => ⟨⟨some (1, v), h, rfl, hp, by rw [ht]; exact hW.2⟩, hS.F ht⟩) hS.2.2 d hlk
theorem V_vret {Γ : z_C} {M : z_M} {a : Nat × Nat × Nat} {pc : Nat} {L st : List (Nat × Int)} {h : z_H} {n0 : Nat} {P : Option (Nat × Int) → z_H → Prop}  (X : z_Ok Γ M) (hQ : z_RQ Γ M n0 P) (d : decode M.2.1 pc = .ok (.return_, 1)) (hr : M.2.2.2.1 = none) (ha : a = (n0 + M.2.2.2.2.2.2.1, M.2.2.2.2.2.2.1, M.2.2.2.2.2.2.2)) (hp : P none h) : z_V Γ a pc L [] h := by
  subst ha
  obtain ⟨p, l, e, R, s, m, args, below, meth, c, Q, D, ca, base⟩ := Γ
  obtain ⟨y, cc, nL, ret, fr, lo, rc, rs⟩ := M
  obtain ⟨hx, hb, hml, hown, hts, hlk, hrt, hfr, hlo, hrc, hrs, hK, hbs, hnm⟩ := X
  intro H locs ls hW hS hL
  have hQ : Q = MQ below (z_Qc D ca base (n0 + rc) P) args s rc rs (fun q => base ≤ q) := hQ
  subst hQ
  exact W.vret hx hb (hrt.trans hr) (fun t ht hWm => ⟨⟨none, h, rfl, hp, by rw [ht]; exact hW.2⟩, hS.F ht⟩) hS.2.2 d hlk
theorem V_aret {Γ : z_C} {M : z_M} {a : Nat × Nat × Nat} {pc : Nat} {L st : List (Nat × Int)} {h : z_H} {n0 : Nat} {P : Option (Nat × Int) → z_H → Prop} {v : Int} {C : String} (X : z_Ok Γ M) (hQ : z_RQ Γ M n0 P) (d : decode M.2.1 pc = .ok (.areturn, 1)) (hr : M.2.2.2.1 = some (.object C)) (h0 : 0 ≤ v) (ha : a = (n0 + M.2.2.2.2.2.2.1, M.2.2.2.2.2.2.1, M.2.2.2.2.2.2.2)) (hp : P (some (2, v)) h) : z_V Γ a pc L [(2, v)] h := by
  subst ha
  obtain ⟨p, l, e, R, s, m, args, below, meth, c, Q, D, ca, base⟩ := Γ
  obtain ⟨y, cc, nL, ret, fr, lo, rc, rs⟩ := M
  obtain ⟨hx, hb, hml, hown, hts, hlk, hrt, hfr, hlo, hrc, hrs, hK, hbs, hnm⟩ := X
  intro H locs ls hW hS hL
  have hQ : Q = MQ below (z_Qc D ca base (n0 + rc) P) args s rc rs (fun q => base ≤ q) := hQ
  subst hQ
  exact W.aret (v := z_v base (2, v)) hx hb (hrt.trans hr) (Or.inl ⟨C, rfl⟩) (Or.inr ⟨_, z_v_ref h0⟩) (fun t ht hWm => ⟨⟨some (2, v), h, rfl, hp, by rw [ht]; exact hW.2⟩, hS.F ht⟩) hS.2.2 d hlk
theorem z_sized {p : Program} {l : Launch} {e : Env} {R : Room} {s : State} {m : MethodId} {args : Array Value} {below : List Frame} {meth : Method} {c : Code} {H : Heap} {locs : List Loc} {cells slots : Nat} {Q : State → Prop} {g : JFrame} {D : va_G} {ca : Nat → ClassId} {base n : Nat} {h : z_H} (hW : base + n = s.heap.size + cells ∧ z_W D ca base n h H) (hS : va_S (fun q => base ≤ q) s.heap H locs) (hbs : base ≤ s.heap.size) (k : H.size = base + n → W p l e R s m args below meth c H locs cells slots Q g) : W p l e R s m args below meth c H locs cells slots Q g := by
  intro T hT X
  refine k ?_ T hT X
  have h1 : H.size ≤ s.heap.size + cells := by rw [← hT]; exact X.heapSize
  have h2 : base + n ≤ H.size := by
    match n, hW with
    | 0, hW => have := hS.1; omega
    | n + 1, hW =>
      have hw : (z_w ca base (n + 1) h)[n]? = some (base + n, z_e ca base (z_kd (n + 1) (n : Int)) (h (n : Int))) := by
        unfold z_w
        rw [List.getElem?_map, List.getElem?_range (by omega)]
        rfl
      have := (hW.2 n _ hw).lt
      have h3 : base + n < H.size := this
      omega
  have := hW.1
  omega
/-- behind a call -/
theorem z_after {p : Program} {l : Launch} {e : Env} {R : Room} {s : State} {m : MethodId} {args : Array Value} {below : List Frame} {meth : Method} {c : Code} {H : Heap} {locs : List Loc} {cells slots mc ms n : Nat} {Q : State → Prop} {D : va_G} {ca : Nat → ClassId} {base pc : Nat} {ls : Array Slot} {st0 rest : List Value} {av : Array Value} {P : Option (Nat × Int) → z_H → Prop}
    (hr : va_Run p l e R s m args below meth c H locs cells slots mc ms (F0 m pc ls st0) rest (z_Qc D ca base n P av) (fun q => base ≤ q)) (hS : va_S (fun q => base ≤ q) s.heap H locs)
    (kk : ∀ (r : Option (Nat × Int)) (h : z_H) (H1 : Heap) (locs1 : List Loc), P r h → z_W D ca base n h H1 → va_S (fun q => base ≤ q) s.heap H1 locs1 → W p l e R s m args below meth c H1 locs1 (cells + mc) (slots + ms) Q (F0 m (pc + 3) ls ((r.map (z_v base)).toList ++ rest))) : W p l e R s m args below meth c H locs cells slots Q (F0 m pc ls st0) := by
  intro T hT X
  obtain ⟨v, st₀, t, T', L, h0, X', hL, e1, e2, ⟨⟨r, h, hv, hp, hw⟩, hz, hk⟩, st⟩ := hr T hT X
  cases hv
  rw [h0] at hz hk
  obtain ⟨t2, a1, b1⟩ := kk r h T'.heap (locs ++ L) hp (by rw [e1]; exact hw)
    ⟨Nat.le_trans hS.1 (by rw [e1]; exact hz), fun q h1 h2 => by rw [e1, hk q (Nat.lt_of_lt_of_le h1 hS.1) h2]; exact hS.2.1 q h1 h2, fun q hq => by
      rcases List.mem_append.mp hq with h | h
      · exact hS.2.2 q h
      · exact hL q h⟩ T' rfl X'
  exact ⟨t2, st t2 a1, b1⟩
theorem z_blind (D : va_G) (ca : Nat → ClassId) (base n : Nat) (as : List (Nat × Int)) (h : z_H) : FrameBlind (z_Pc D ca base n as h) := fun a U g mk q => ⟨q.1, q.2.1, q.2.2.1, z_K.same (s := U) (U := U.calling g mk a) rfl q.2.2.2⟩
theorem z_good {y : MethodName} {cc : ByteArray} {nL : Nat} {ret : Option FieldType} (h : Cond.code y cc nL ret ∈ z_gw) : GoodIn z_gw (Cond.code y cc nL ret :: z_gw) := fun w hw => by
  have hm : w ∈ z_gw := (List.mem_cons.mp hw).elim (fun e => by rw [e]; exact h) id
  exact ⟨hm, good_of_word (z_gw_good hm)⟩
/-- the words of a stack below a call -/
def z_wd (st : List (Nat × Int)) : Nat := (st.map fun c => if c.1 = 1 then 2 else 1).sum
theorem z_wd_eq (base : Nat) (st : List (Nat × Int)) : ((st.map (z_v base)).map fun v => v.category).sum = z_wd st := by
  unfold z_wd
  rw [List.map_map]
  congr 1
  apply List.map_congr_left
  intro q _
  exact z_cat base q
theorem V_callV {Γ : z_C} {M : z_M} {a : Nat × Nat × Nat} {pc : Nat} {L st : List (Nat × Int)} {h : z_H} {N : z_M} {na : Nat} {as : List (Nat × Int)} {P : Option (Nat × Int) → z_H → Prop} {idx : Nat} {k : Int} {ci : Nat} (X : z_Ok Γ M) (d : decode M.2.1 pc = .ok (.invokevirtual idx, 3)) (hM : z_MOk N na) (hl : Cond.methodLink M.1.cls idx N.1 ∈ z_gw) (hi : Cond.instanceMethod N.1 ∈ z_gw) (hs : Cond.selects N.1.cls N.1 N.1 ∈ z_gw) (hR : N.2.2.2.2.1 + 1 ≤ M.2.2.2.2.1 ∧ 8 + (N.2.2.1 + 11) + N.2.2.2.2.2.1 ≤ M.2.2.2.2.2.1) (hcs : a.2.1 + N.2.2.2.2.2.2.1 ≤ M.2.2.2.2.2.2.1 ∧ a.2.2 + N.2.2.2.2.2.2.2 ≤ M.2.2.2.2.2.2.2) (hk : z_kd a.1 k = (0, ci)) (hci : ∀ q, vwCl[ci]? = some q → q.1 = N.1.cls) (hcv : (vwCl[ci]?).isSome = true) (hn : as.length = na) (hw : z_wd st ≤ 8) (hC : z_Ct N a.1 ((2, k) :: as) h P) (kk : ∀ r h', P r h' → z_V Γ (a.1 + N.2.2.2.2.2.2.1, a.2.1 + N.2.2.2.2.2.2.1, a.2.2 + N.2.2.2.2.2.2.2) (pc + 3) L (r.toList ++ st) h') : z_V Γ a pc L (as.reverse ++ (2, k) :: st) h := by
  obtain ⟨p, l, e, R, s, m, args, below, meth, c, Q, D, ca, base⟩ := Γ
  obtain ⟨y, cc, nL, ret, fr, lo, rc, rs⟩ := M
  obtain ⟨n, cells, slots⟩ := a
  obtain ⟨hx, hb, hml, hown, hts, hlk, hrt, hfr, hlo, hrc, hrs, hK, hbs, hnm⟩ := X
  obtain ⟨y', cc', nL', ret', fr', lo', rc', rs'⟩ := N
  intro H locs ls hW hS hL
  obtain ⟨m1, m2, m3, m4, m5⟩ := hM
  have hts' : ∀ w ∈ z_gw, w.before args s = true := hts
  have k0 := (z_kd_spec hk (Nat.ne_of_beq_eq_false rfl)).1
  have cw : CallW R s args y.cls y'.cls idx y' cc' nL' ret' (Cond.code y' cc' nL' ret' :: z_gw) { frames := fr', cells := rc', slots := rs', locals := lo' } rc' rs' na := ⟨callB_of na hts' (z_good m1) rfl rfl rfl (hts' _ m2) (hts' _ hl) ⟨m3.1, m3.2, m4⟩ ⟨by rw [hfr]; exact hR.1, by rw [hlo]; exact hR.2⟩, hts' _ hi, hts' _ hs⟩
  obtain ⟨q, hq⟩ := Option.isSome_iff_exists.mp hcv
  have hrec := va_recv hK.1 hW.2 (ci := ci) (q0 := k.toNat) hq (z_w_at hk (Nat.ne_of_beq_eq_false rfl))
  rw [hci q hq] at hrec
  refine z_sized hW hS hbs (fun hsz => ?_)
  refine z_after (n := n + rc') (P := P) (rest := st.map (z_v base)) (va_runV (b := base + k.toNat) (As := as.map (z_v base)) (rest := st.map (z_v base)) ⟨hx, hb, hml, hown, hts'⟩ (hC l D ca base) cw ⟨z_blind D ca base n _ h, hrec, fun U hU hWm => ⟨by rw [List.map_cons, z_v_ref k0], by rw [hU]; exact hsz, by rw [hU]; exact hW.2, hK.warm hWm⟩⟩ rfl (by rw [List.length_map]; exact hn) (hL.1.trans hml) (by rw [List.map_append, List.map_cons, List.map_reverse, z_v_ref k0]) (by show 2 * 0 + _ ≤ 8; rw [z_wd_eq]; omega) d ⟨by rw [hrc]; exact hcs.1, by rw [hrs]; exact hcs.2⟩) hS (fun r h' H1 locs1 hp hw1 hS1 => ?_)
  rw [show (r.map (z_v base)).toList ++ st.map (z_v base) = (r.toList ++ st).map (z_v base) by cases r <;> rfl]
  exact kk r h' hp H1 locs1 ls ⟨by have := hW.1; show base + (n + rc') = s.heap.size + (cells + rc'); omega, hw1⟩ hS1 hL
theorem V_callS {Γ : z_C} {M : z_M} {a : Nat × Nat × Nat} {pc : Nat} {L st : List (Nat × Int)} {h : z_H} {N : z_M} {na : Nat} {as : List (Nat × Int)} {P : Option (Nat × Int) → z_H → Prop} {idx : Nat} (X : z_Ok Γ M) (d : decode M.2.1 pc = .ok (.invokestatic idx, 3)) (hM : z_MOk N na) (hl : Cond.methodLink M.1.cls idx N.1 ∈ z_gw) (hs : Cond.static N.1 ∈ z_gw) (hR : N.2.2.2.2.1 + 1 ≤ M.2.2.2.2.1 ∧ 8 + (N.2.2.1 + 11) + N.2.2.2.2.2.1 ≤ M.2.2.2.2.2.1) (hcs : a.2.1 + N.2.2.2.2.2.2.1 ≤ M.2.2.2.2.2.2.1 ∧ a.2.2 + N.2.2.2.2.2.2.2 ≤ M.2.2.2.2.2.2.2) (hn : as.length = na) (hw : z_wd st ≤ 8) (hC : z_Ct N a.1 as h P) (kk : ∀ r h', P r h' → z_V Γ (a.1 + N.2.2.2.2.2.2.1, a.2.1 + N.2.2.2.2.2.2.1, a.2.2 + N.2.2.2.2.2.2.2) (pc + 3) L (r.toList ++ st) h') : z_V Γ a pc L (as.reverse ++ st) h := by
  obtain ⟨p, l, e, R, s, m, args, below, meth, c, Q, D, ca, base⟩ := Γ
  obtain ⟨y, cc, nL, ret, fr, lo, rc, rs⟩ := M
  obtain ⟨n, cells, slots⟩ := a
  obtain ⟨hx, hb, hml, hown, hts, hlk, hrt, hfr, hlo, hrc, hrs, hK, hbs, hnm⟩ := X
  obtain ⟨y', cc', nL', ret', fr', lo', rc', rs'⟩ := N
  intro H locs ls hW hS hL
  obtain ⟨m1, m2, m3, m4, m5⟩ := hM
  have hts' : ∀ w ∈ z_gw, w.before args s = true := hts
  have cw : CallB R s args y.cls idx y' cc' nL' ret' (Cond.code y' cc' nL' ret' :: z_gw) { frames := fr', cells := rc', slots := rs', locals := lo' } rc' rs' na ∧ (Cond.static y').before args s = true := ⟨callB_of na hts' (z_good m1) rfl rfl rfl (hts' _ m2) (hts' _ hl) ⟨m3.1, m3.2, m4⟩ ⟨by rw [hfr]; exact hR.1, by rw [hlo]; exact hR.2⟩, hts' _ hs⟩
  refine z_sized hW hS hbs (fun hsz => ?_)
  refine z_after (n := n + rc') (P := P) (rest := st.map (z_v base)) (va_runS (As := as.map (z_v base)) (rest := st.map (z_v base)) ⟨hx, hb, hml, hown, hts'⟩ (hC l D ca base) cw ⟨z_blind D ca base n _ h, fun U hU hWm => ⟨rfl, by rw [hU]; exact hsz, by rw [hU]; exact hW.2, hK.warm hWm⟩⟩ rfl (by rw [List.length_map]; exact hn) (hL.1.trans hml) (by rw [List.map_append, List.map_reverse]) (by show 2 * 0 + _ ≤ 8; rw [z_wd_eq]; omega) d ⟨by rw [hrc]; exact hcs.1, by rw [hrs]; exact hcs.2⟩) hS (fun r h' H1 locs1 hp hw1 hS1 => ?_)
  rw [show (r.map (z_v base)).toList ++ st.map (z_v base) = (r.toList ++ st).map (z_v base) by cases r <;> rfl]
  exact kk r h' hp H1 locs1 ls ⟨by have := hW.1; show base + (n + rc') = s.heap.size + (cells + rc'); omega, hw1⟩ hS1 hL
theorem V_callI {Γ : z_C} {M : z_M} {a : Nat × Nat × Nat} {pc : Nat} {L st : List (Nat × Int)} {h : z_H} {N : z_M} {na : Nat} {as : List (Nat × Int)} {P : Option (Nat × Int) → z_H → Prop} {idx : Nat} {k : Int} (X : z_Ok Γ M) (d : decode M.2.1 pc = .ok (.invokespecial idx, 3)) (hM : z_MOk N na) (hl : Cond.methodLink M.1.cls idx N.1 ∈ z_gw) (hi : Cond.instanceMethod N.1 ∈ z_gw) (hin : N.1.name = "<init>") (hrn : N.2.2.2.1 = none) (hR : N.2.2.2.2.1 + 1 ≤ M.2.2.2.2.1 ∧ 8 + (N.2.2.1 + 11) + N.2.2.2.2.2.1 ≤ M.2.2.2.2.2.1) (hcs : a.2.1 + N.2.2.2.2.2.2.1 ≤ M.2.2.2.2.2.2.1 ∧ a.2.2 + N.2.2.2.2.2.2.2 ≤ M.2.2.2.2.2.2.2) (hk0 : 0 ≤ k) (hn : as.length = na) (hw : z_wd st ≤ 8) (hC : z_Ct N a.1 ((2, k) :: as) h P) (kk : ∀ r h', P r h' → z_V Γ (a.1 + N.2.2.2.2.2.2.1, a.2.1 + N.2.2.2.2.2.2.1, a.2.2 + N.2.2.2.2.2.2.2) (pc + 3) L (r.toList ++ st) h') : z_V Γ a pc L (as.reverse ++ (2, k) :: st) h := by
  obtain ⟨p, l, e, R, s, m, args, below, meth, c, Q, D, ca, base⟩ := Γ
  obtain ⟨y, cc, nL, ret, fr, lo, rc, rs⟩ := M
  obtain ⟨n, cells, slots⟩ := a
  obtain ⟨hx, hb, hml, hown, hts, hlk, hrt, hfr, hlo, hrc, hrs, hK, hbs, hnm⟩ := X
  obtain ⟨y', cc', nL', ret', fr', lo', rc', rs'⟩ := N
  intro H locs ls hW hS hL
  obtain ⟨m1, m2, m3, m4, m5⟩ := hM
  have hts' : ∀ w ∈ z_gw, w.before args s = true := hts
  have hrn : ret' = none := hrn
  subst hrn
  have cw : CallB R s args y.cls idx y' cc' nL' none (Cond.code y' cc' nL' none :: z_gw) { frames := fr', cells := rc', slots := rs', locals := lo' } rc' rs' na ∧ y'.name = "<init>" ∧ (Cond.instanceMethod y').before args s = true := ⟨callB_of na hts' (z_good m1) rfl rfl rfl (hts' _ m2) (hts' _ hl) ⟨m3.1, m3.2, m4⟩ ⟨by rw [hfr]; exact hR.1, by rw [hlo]; exact hR.2⟩, hin, hts' _ hi⟩
  refine z_sized hW hS hbs (fun hsz => ?_)
  refine z_after (n := n + rc') (P := P) (rest := st.map (z_v base)) (va_runI (b := base + k.toNat) (As := as.map (z_v base)) (rest := st.map (z_v base)) ⟨hx, hb, hml, hown, hts'⟩ (hC l D ca base) cw ⟨z_blind D ca base n _ h, fun U hU hWm => ⟨by rw [List.map_cons, z_v_ref hk0], by rw [hU]; exact hsz, by rw [hU]; exact hW.2, hK.warm hWm⟩⟩ rfl (by rw [List.length_map]; exact hn) (hL.1.trans hml) (by rw [List.map_append, List.map_cons, List.map_reverse, z_v_ref hk0]) (by show 2 * 0 + _ ≤ 8; rw [z_wd_eq]; omega) d ⟨by rw [hrc]; exact hcs.1, by rw [hrs]; exact hcs.2⟩) hS (fun r h' H1 locs1 hp hw1 hS1 => ?_)
  rw [show (r.map (z_v base)).toList ++ st.map (z_v base) = (r.toList ++ st).map (z_v base) by cases r <;> rfl]
  exact kk r h' hp H1 locs1 ls ⟨by have := hW.1; show base + (n + rc') = s.heap.size + (cells + rc'); omega, hw1⟩ hS1 hL
theorem V_callN {Γ : z_C} {M : z_M} {a : Nat × Nat × Nat} {pc : Nat} {L st : List (Nat × Int)} {h : z_H} {N : z_M} {na : Nat} {as : List (Nat × Int)} {P : Option (Nat × Int) → z_H → Prop} {idx : Nat} {k : Int} (X : z_Ok Γ M) (d : decode M.2.1 pc = .ok (.invokespecial idx, 3)) (hM : z_MOk N na) (hl : Cond.methodLinkNest M.1.cls idx N.1 RX9 ∈ z_nest) (hi : Cond.instanceMethod N.1 ∈ z_gw) (hin : N.1.name = "<init>") (hrn : N.2.2.2.1 = none) (hR : N.2.2.2.2.1 + 1 ≤ M.2.2.2.2.1 ∧ 8 + (N.2.2.1 + 11) + N.2.2.2.2.2.1 ≤ M.2.2.2.2.2.1) (hcs : a.2.1 + N.2.2.2.2.2.2.1 ≤ M.2.2.2.2.2.2.1 ∧ a.2.2 + N.2.2.2.2.2.2.2 ≤ M.2.2.2.2.2.2.2) (hk0 : 0 ≤ k) (hn : as.length = na) (hw : z_wd st ≤ 8) (hC : z_Ct N a.1 ((2, k) :: as) h P) (kk : ∀ r h', P r h' → z_V Γ (a.1 + N.2.2.2.2.2.2.1, a.2.1 + N.2.2.2.2.2.2.1, a.2.2 + N.2.2.2.2.2.2.2) (pc + 3) L (r.toList ++ st) h') : z_V Γ a pc L (as.reverse ++ (2, k) :: st) h := by
  obtain ⟨p, l, e, R, s, m, args, below, meth, c, Q, D, ca, base⟩ := Γ
  obtain ⟨y, cc, nL, ret, fr, lo, rc, rs⟩ := M
  obtain ⟨n, cells, slots⟩ := a
  obtain ⟨hx, hb, hml, hown, hts, hlk, hrt, hfr, hlo, hrc, hrs, hK, hbs, hnm⟩ := X
  obtain ⟨y', cc', nL', ret', fr', lo', rc', rs'⟩ := N
  intro H locs ls hW hS hL
  obtain ⟨m1, m2, m3, m4, m5⟩ := hM
  have hts' : ∀ w ∈ z_gw, w.before args s = true := hts
  have hrn : ret' = none := hrn
  subst hrn
  have cw : va_CN R s args y.cls idx y' RX9 cc' nL' none (Cond.code y' cc' nL' none :: z_gw) { frames := fr', cells := rc', slots := rs', locals := lo' } rc' rs' na ∧ y'.name = "<init>" ∧ (Cond.instanceMethod y').before args s = true := ⟨va_cnB na hts' (z_good m1) rfl rfl rfl (hK.2.1 _ hl) (hts' _ m2) ⟨m3.1, m3.2, m4⟩ ⟨by rw [hfr]; exact hR.1, by rw [hlo]; exact hR.2⟩, hin, hts' _ hi⟩
  refine z_sized hW hS hbs (fun hsz => ?_)
  refine z_after (n := n + rc') (P := P) (rest := st.map (z_v base)) (va_runIN (b := base + k.toNat) (As := as.map (z_v base)) (rest := st.map (z_v base)) ⟨hx, hb, hml, hown, hts'⟩ (hC l D ca base) cw ⟨z_blind D ca base n _ h, fun U hU hWm => ⟨by rw [List.map_cons, z_v_ref hk0], by rw [hU]; exact hsz, by rw [hU]; exact hW.2, hK.warm hWm⟩⟩ rfl (by rw [List.length_map]; exact hn) (hL.1.trans hml) (by rw [List.map_append, List.map_cons, List.map_reverse, z_v_ref hk0]) (by show 2 * 0 + _ ≤ 8; rw [z_wd_eq]; omega) d ⟨by rw [hrc]; exact hcs.1, by rw [hrs]; exact hcs.2⟩) hS (fun r h' H1 locs1 hp hw1 hS1 => ?_)
  rw [show (r.map (z_v base)).toList ++ st.map (z_v base) = (r.toList ++ st).map (z_v base) by cases r <;> rfl]
  exact kk r h' hp H1 locs1 ls ⟨by have := hW.1; show base + (n + rc') = s.heap.size + (cells + rc'); omega, hw1⟩ hS1 hL
end
section
/-! THE CALCULUS, 6: new cells, copies -/
/-- what a fresh cell holds: no reference, or 0 -/
def z_dv (kd : Nat × Nat) (j : Int) : Int := match kd.1 with
  | 0 => if z_tag (z_ty kd.2 j.toNat) = 2 then -1 else 0
  | 1 => 0
  | 2 => 0
  | _ => -1
theorem z_w_succ {ca : Nat → ClassId} {base n : Nat} {h : z_H} : z_w ca base (n + 1) h = (List.range n).map (fun k => (base + k, z_e ca base (z_kd (n + 1) (k : Int)) (h (k : Int)))) ++ [(base + n, z_e ca base (z_kd (n + 1) (n : Int)) (h (n : Int)))] := by
  unfold z_w
  rw [List.range_succ, List.map_append]
  rfl
theorem z_kd_succ {n : Nat} {k : Nat} (h : k < n) : z_kd (n + 1) (k : Int) = z_kd n (k : Int) := by
  unfold z_kd
  rw [if_neg (show ¬ ((k : Int) < 0) by omega), if_neg (show ¬ ((k : Int) < 0) by omega), if_neg (show ¬ (n + 1 ≤ (k : Int).toNat) by omega), if_neg (show ¬ (n ≤ (k : Int).toNat) by omega)]
theorem z_w_push {ca : Nat → ClassId} {base n : Nat} {h h' : z_H} {kd : Nat × Nat} {e : va_E} (hk : z_kd (n + 1) (n : Int) = kd) (ho : ∀ k : Nat, k < n → h' (k : Int) = h (k : Int)) (he : z_e ca base kd (h' (n : Int)) = e) : z_w ca base n h ++ [(base + n, e)] = z_w ca base (n + 1) h' := by
  rw [z_w_succ, hk, he]
  congr 1
  unfold z_w
  apply List.map_congr_left
  intro k hkm
  have hkn := List.mem_range.mp hkm
  rw [z_kd_succ hkn, ho k hkn]
/-- the contents with a fresh cell at n -/
def z_nw (h : z_H) (n : Nat) (kd : Nat × Nat) : z_H := fun q r => if q = (n : Int) then z_dv kd r else h q r
theorem z_nw_lt (h : z_H) {n : Nat} {kd : Nat × Nat} {k : Nat} (hk : k < n) : z_nw h n kd (k : Int) = h (k : Int) := by
  funext r
  unfold z_nw
  rw [if_neg (by omega)]
theorem z_nw_at (h : z_H) (n : Nat) (kd : Nat × Nat) : z_nw h n kd (n : Int) = z_dv kd := by
  funext r
  unfold z_nw
  rw [if_pos rfl]
theorem z_W_push {D : va_G} {ca : Nat → ClassId} {base n : Nat} {h h' : z_H} {kd : Nat × Nat} {e : va_E} {H1 : Heap} (hP : va_P D vwCl (z_w ca base n h ++ [(base + n, e)]) H1) (hk : z_kd (n + 1) (n : Int) = kd) (ho : ∀ k : Nat, k < n → h' (k : Int) = h (k : Int)) (he : z_e ca base kd (h' (n : Int)) = e) : z_W D ca base (n + 1) h' H1 := by
  show va_P _ _ _ _
  rw [← z_w_push hk ho he]
  exact hP
theorem z_dflt (base : Nat) (ty : FieldType) (hty : ty = .int ∨ ty = .boolean ∨ ty = .long ∨ z_tag ty = 2) : defaultValue ty = z_v base (z_tag ty, if z_tag ty = 2 then -1 else 0) := by
  rcases hty with rfl | rfl | rfl | h
  · rfl
  · rfl
  · rfl
  · rw [h, if_pos rfl]
    cases ty <;> first | (exact absurd h (by decide)) | rfl
theorem z_ty_ok : ∀ ci, ci < 10 → ∀ j, j < z_nf ci → z_ty ci j = .int ∨ z_ty ci j = .boolean ∨ z_ty ci j = .long ∨ z_tag (z_ty ci j) = 2 := by decide +kernel
/-- entry idx of the pool of own is the name of kind ci, which can be made -/
def z_N (own : String) (idx ci : Nat) : Prop := ∃ (C : String) (T : u_T), vwCl[ci]? = some (C, T, z_nf ci) ∧ ci < 10 ∧ (∀ w ∈ u_ws C T (z_nf ci), w ∈ z_gw) ∧ (∀ k, k < z_nf ci → parseFieldDescriptor (T k).2.2.1 = some (z_ty ci k)) ∧ Cond.classLink own idx C ∈ z_gw ∧ Cond.instantiable C (z_nf ci) ∈ z_gw ∧ Cond.initialized C ∈ z_gw
theorem V_new {Γ : z_C} {M : z_M} {a : Nat × Nat × Nat} {pc : Nat} {L st : List (Nat × Int)} {h : z_H} {idx ci : Nat} (X : z_Ok Γ M) (d : decode M.2.1 pc = .ok (.new idx, 3)) (f : z_N M.1.cls idx ci) (hk : z_kd (a.1 + 1) (a.1 : Int) = (0, ci)) (hcs : a.2.1 + 1 ≤ M.2.2.2.2.2.2.1 ∧ a.2.2 + z_nf ci ≤ M.2.2.2.2.2.2.2) (kk : z_V Γ (a.1 + 1, a.2.1 + 1, a.2.2 + z_nf ci) (pc + 3) L ((2, (a.1 : Int)) :: st) (z_nw h a.1 (0, ci))) : z_V Γ a pc L st h := by
  obtain ⟨p, l, e, R, s, m, args, below, meth, c, Q, D, ca, base⟩ := Γ
  obtain ⟨y, cc, nL, ret, fr, lo, rc, rs⟩ := M
  obtain ⟨n, cells, slots⟩ := a
  obtain ⟨hx, hb, hml, hown, hts, hlk, hrt, hfr, hlo, hrc, hrs, hK, hbs, hnm⟩ := X
  intro H locs ls hW hS hL
  obtain ⟨C, T, f1, f0, f3, f4, f5, f6, f7⟩ := f
  refine z_sized hW hS hbs (fun hsz => ?_)
  have hKn := hK.1.1 ci _ f1
  refine W.newcK hx hb hown (hts _ f5) (hts _ f6) (hts _ f7) rfl d (by rw [hrc]; exact hcs.1) (by rw [hrs]; exact hcs.2) hKn.2.1 rfl fun H1 kC hkC e1 z1 o1 => ?_
  have hkp : ∀ (k : Nat) (x : Nat × va_E), (z_w ca base n h)[k]? = some x → H1[x.1]? = H[x.1]? := fun k x hx => o1 x.1 ((hW.2 k x hx).lt)
  have hP1 : va_P D vwCl (z_w ca base n h ++ [(base + n, .inr (ci, z_fs base ci (z_dv (0, ci))))]) H1 := by
    refine (va_P.kept hW.2 hkp).app (fun k x hx => ?_)
    have hz : k < 1 := (List.getElem?_eq_some_iff.mp hx).1
    rw [show k = 0 by omega] at hx
    cases hx
    rw [hsz] at e1
    refine ⟨_, f1, (u_born (z_ty ci) hts f3 hKn hkC e1 f4).to (fun j hj => ?_)⟩
    show defaultValue (z_ty ci j) = vp_V (z_fs base ci (z_dv (0, ci))) j
    rw [z_dflt base _ (z_ty_ok ci f0 j hj)]
    unfold vp_V
    rw [List.getD_eq_getElem?_getD, z_fs_at hj]
    rfl
  have hw : z_W D ca base (n + 1) (z_nw h n (0, ci)) H1 := z_W_push hP1 hk (fun k hkn => z_nw_lt h hkn) (by rw [z_nw_at]; rfl)
  have g := kk H1 locs ls ⟨by have := hW.1; show base + (n + 1) = s.heap.size + (cells + 1); omega, hw⟩ ⟨Nat.le_trans hS.1 (by omega), fun x h1 h2 => (o1 x (Nat.lt_of_lt_of_le h1 hS.1)).trans (hS.2.1 x h1 h2), hS.2.2⟩ hL
  rw [List.map_cons, z_v_ref (show (0 : Int) ≤ (n : Int) by omega)] at g
  rw [hsz]
  exact g
theorem V_newI {Γ : z_C} {M : z_M} {a : Nat × Nat × Nat} {pc : Nat} {L st : List (Nat × Int)} {h : z_H} {N : Nat} {v : Int} (X : z_Ok Γ M) (d : decode M.2.1 pc = .ok (.newarray .int, 2)) (hw : Cond.arrayClass .int ∈ z_gw) (hv : v = (N : Int)) (hN : N ≤ 100000) (hk : z_kd (a.1 + 1) (a.1 : Int) = (1, N)) (hcs : a.2.1 + 1 ≤ M.2.2.2.2.2.2.1 ∧ a.2.2 + N ≤ M.2.2.2.2.2.2.2) (kk : z_V Γ (a.1 + 1, a.2.1 + 1, a.2.2 + N) (pc + 2) L ((2, (a.1 : Int)) :: st) (z_nw h a.1 (1, N))) : z_V Γ a pc L ((0, v) :: st) h := by
  obtain ⟨p, l, e, R, s, m, args, below, meth, c, Q, D, ca, base⟩ := Γ
  obtain ⟨y, cc, nL, ret, fr, lo, rc, rs⟩ := M
  obtain ⟨n, cells, slots⟩ := a
  obtain ⟨hx, hb, hml, hown, hts, hlk, hrt, hfr, hlo, hrc, hrs, hK, hbs, hnm⟩ := X
  intro H locs ls hW hS hL
  refine z_sized hW hS hbs (fun hsz => ?_)
  have hr : z_R v := ⟨by omega, by omega⟩
  have hvn : (z_i v).toNatClampNeg = N := by show (z_i v).toInt.toNat = N; rw [z_i_to hr]; omega
  refine va_newaK (N := N) (atype := .int) hx hb (hts _ hw) rfl d rfl (fun q => ?_) hvn (by show N * _ ≤ _; simp [componentBytes, newarray.typeOf]; omega) (by rw [hrc]; exact hcs.1) (by rw [hrs]; exact hcs.2) hsz fun H1 cA e1 z1 o1 hAr hNm => ?_
  · have := (z_i_lt hr z_R0).mp q; omega
  have hcA : cA = ca 1 := Option.some.inj (hNm.symm.trans (hK.1.2 0 _ rfl).2)
  subst hcA
  have hP1 : va_P D vwCl (z_w ca base n h ++ [(base + n, .inl (ca 1, N, .inl fun _ => z_i 0))]) H1 := by
    refine (va_P.kept hW.2 (fun k x hx => o1 x.1 (by have := (hW.2 k x hx).lt; omega))).app (fun k x hx => ?_)
    have hz : k < 1 := (List.getElem?_eq_some_iff.mp hx).1
    rw [show k = 0 by omega] at hx
    cases hx
    exact e1
  have hw : z_W D ca base (n + 1) (z_nw h n (1, N)) H1 := z_W_push hP1 hk (fun k hkn => z_nw_lt h hkn) (by rw [z_nw_at]; rfl)
  have g := kk H1 locs ls ⟨by have := hW.1; show base + (n + 1) = s.heap.size + (cells + 1); omega, hw⟩ ⟨Nat.le_trans hS.1 (by omega), fun x h1 h2 => (o1 x (by have := hS.1; omega)).trans (hS.2.1 x h1 h2), hS.2.2⟩ hL
  rw [List.map_cons, z_v_ref (show (0 : Int) ≤ (n : Int) by omega)] at g
  exact g
theorem V_newZ {Γ : z_C} {M : z_M} {a : Nat × Nat × Nat} {pc : Nat} {L st : List (Nat × Int)} {h : z_H} {N : Nat} {v : Int} (X : z_Ok Γ M) (d : decode M.2.1 pc = .ok (.newarray .boolean, 2)) (hw : Cond.arrayClass .boolean ∈ z_gw) (hv : v = (N : Int)) (hN : N ≤ 100000) (hk : z_kd (a.1 + 1) (a.1 : Int) = (2, N)) (hcs : a.2.1 + 1 ≤ M.2.2.2.2.2.2.1 ∧ a.2.2 + N ≤ M.2.2.2.2.2.2.2) (kk : z_V Γ (a.1 + 1, a.2.1 + 1, a.2.2 + N) (pc + 2) L ((2, (a.1 : Int)) :: st) (z_nw h a.1 (2, N))) : z_V Γ a pc L ((0, v) :: st) h := by
  obtain ⟨p, l, e, R, s, m, args, below, meth, c, Q, D, ca, base⟩ := Γ
  obtain ⟨y, cc, nL, ret, fr, lo, rc, rs⟩ := M
  obtain ⟨n, cells, slots⟩ := a
  obtain ⟨hx, hb, hml, hown, hts, hlk, hrt, hfr, hlo, hrc, hrs, hK, hbs, hnm⟩ := X
  intro H locs ls hW hS hL
  refine z_sized hW hS hbs (fun hsz => ?_)
  have hr : z_R v := ⟨by omega, by omega⟩
  have hvn : (z_i v).toNatClampNeg = N := by show (z_i v).toInt.toNat = N; rw [z_i_to hr]; omega
  refine va_newaK (N := N) (atype := .boolean) hx hb (hts _ hw) rfl d rfl (fun q => ?_) hvn (by show N * _ ≤ _; simp [componentBytes, newarray.typeOf]; omega) (by rw [hrc]; exact hcs.1) (by rw [hrs]; exact hcs.2) hsz fun H1 cA e1 z1 o1 hAr hNm => ?_
  · have := (z_i_lt hr z_R0).mp q; omega
  have hcA : cA = ca 2 := Option.some.inj (hNm.symm.trans (hK.1.2 1 _ rfl).2)
  subst hcA
  have hP1 : va_P D vwCl (z_w ca base n h ++ [(base + n, .inl (ca 2, N, .inl fun _ => z_i 0))]) H1 := by
    refine (va_P.kept hW.2 (fun k x hx => o1 x.1 (by have := (hW.2 k x hx).lt; omega))).app (fun k x hx => ?_)
    have hz : k < 1 := (List.getElem?_eq_some_iff.mp hx).1
    rw [show k = 0 by omega] at hx
    cases hx
    exact e1
  have hw : z_W D ca base (n + 1) (z_nw h n (2, N)) H1 := z_W_push hP1 hk (fun k hkn => z_nw_lt h hkn) (by rw [z_nw_at]; rfl)
  have g := kk H1 locs ls ⟨by have := hW.1; show base + (n + 1) = s.heap.size + (cells + 1); omega, hw⟩ ⟨Nat.le_trans hS.1 (by omega), fun x h1 h2 => (o1 x (by have := hS.1; omega)).trans (hS.2.1 x h1 h2), hS.2.2⟩ hL
  rw [List.map_cons, z_v_ref (show (0 : Int) ≤ (n : Int) by omega)] at g
  exact g
theorem V_newM {Γ : z_C} {M : z_M} {a : Nat × Nat × Nat} {pc : Nat} {L st : List (Nat × Int)} {h : z_H} {N idx : Nat} {v : Int} (X : z_Ok Γ M) (d : decode M.2.1 pc = .ok (.anewarray idx, 3)) (hw : Cond.classLink M.1.cls idx RX2 ∈ z_gw) (hv : v = (N : Int)) (hN : N ≤ 100000) (hk : z_kd (a.1 + 1) (a.1 : Int) = (3, N)) (hcs : a.2.1 + 1 ≤ M.2.2.2.2.2.2.1 ∧ a.2.2 + N ≤ M.2.2.2.2.2.2.2) (kk : z_V Γ (a.1 + 1, a.2.1 + 1, a.2.2 + N) (pc + 3) L ((2, (a.1 : Int)) :: st) (z_nw h a.1 (3, N))) : z_V Γ a pc L ((0, v) :: st) h := by
  obtain ⟨p, l, e, R, s, m, args, below, meth, c, Q, D, ca, base⟩ := Γ
  obtain ⟨y, cc, nL, ret, fr, lo, rc, rs⟩ := M
  obtain ⟨n, cells, slots⟩ := a
  obtain ⟨hx, hb, hml, hown, hts, hlk, hrt, hfr, hlo, hrc, hrs, hK, hbs, hnm⟩ := X
  intro H locs ls hW hS hL
  refine z_sized hW hS hbs (fun hsz => ?_)
  have hr : z_R v := ⟨by omega, by omega⟩
  have hvn : (z_i v).toNatClampNeg = N := by show (z_i v).toInt.toNat = N; rw [z_i_to hr]; omega
  have hn0 : ¬ z_i v < 0 := fun q => by have := (z_i_lt hr z_R0).mp q; omega
  refine W.anew hx hb hown (hts _ hw) (va_AO.use hK.2.2.1) rfl d rfl hn0 (by rw [hvn]; omega) (by rw [hrc]; exact hcs.1) (by rw [hvn, hrs]; exact hcs.2) fun cA kA comp f1 f2 f3 f4 => ?_
  rw [hvn]
  generalize hH1 : H.push ({ cls := cA, slots := Array.replicate N .null, vm := .none } : Cell) = H1
  have z1 : H1.size = H.size + 1 := by rw [← hH1, Array.size_push]
  have e1 : H1[H.size]? = some (arrV cA N (fun _ => .null)) := by rw [← hH1, Array.getElem?_push_size, ← arrV_new]
  have o1 : ∀ q : Nat, q < H.size → H1[q]? = H[q]? := fun q hq => by rw [← hH1, Array.getElem?_push, if_neg (Nat.ne_of_lt hq)]
  obtain ⟨kA', comp', k1, k2, k3, k4⟩ := (hK.1.2 2 _ rfl).2
  have hcA : cA = ca 3 := by
    first | exact Option.some.inj (f4.symm.trans k4) | exact Option.some.inj (f1.symm.trans k4)
  subst hcA
  have hP1 : va_P D vwCl (z_w ca base n h ++ [(base + n, .inl (ca 3, N, .inr (.inr (.inr (.inr fun _ => z_on base (-1))))))]) H1 := by
    refine (va_P.kept hW.2 (fun k x hx => o1 x.1 ((hW.2 k x hx).lt))).app (fun k x hx => ?_)
    have hz : k < 1 := (List.getElem?_eq_some_iff.mp hx).1
    rw [show k = 0 by omega] at hx
    cases hx
    rw [hsz] at e1
    exact e1
  have hw : z_W D ca base (n + 1) (z_nw h n (3, N)) H1 := z_W_push hP1 hk (fun k hkn => z_nw_lt h hkn) (by rw [z_nw_at]; rfl)
  have g := kk H1 locs ls ⟨by have := hW.1; show base + (n + 1) = s.heap.size + (cells + 1); omega, hw⟩ ⟨Nat.le_trans hS.1 (by omega), fun x h1 h2 => (o1 x (Nat.lt_of_lt_of_le h1 hS.1)).trans (hS.2.1 x h1 h2), hS.2.2⟩ hL
  rw [List.map_cons, z_v_ref (show (0 : Int) ≤ (n : Int) by omega)] at g
  rw [hsz]
  exact g
theorem V_newS {Γ : z_C} {M : z_M} {a : Nat × Nat × Nat} {pc : Nat} {L st : List (Nat × Int)} {h : z_H} {N idx : Nat} {v : Int} (X : z_Ok Γ M) (d : decode M.2.1 pc = .ok (.anewarray idx, 3)) (hw : Cond.classLink M.1.cls idx RX6 ∈ z_gw) (hv : v = (N : Int)) (hN : N ≤ 100000) (hk : z_kd (a.1 + 1) (a.1 : Int) = (4, N)) (hcs : a.2.1 + 1 ≤ M.2.2.2.2.2.2.1 ∧ a.2.2 + N ≤ M.2.2.2.2.2.2.2) (kk : z_V Γ (a.1 + 1, a.2.1 + 1, a.2.2 + N) (pc + 3) L ((2, (a.1 : Int)) :: st) (z_nw h a.1 (4, N))) : z_V Γ a pc L ((0, v) :: st) h := by
  obtain ⟨p, l, e, R, s, m, args, below, meth, c, Q, D, ca, base⟩ := Γ
  obtain ⟨y, cc, nL, ret, fr, lo, rc, rs⟩ := M
  obtain ⟨n, cells, slots⟩ := a
  obtain ⟨hx, hb, hml, hown, hts, hlk, hrt, hfr, hlo, hrc, hrs, hK, hbs, hnm⟩ := X
  intro H locs ls hW hS hL
  refine z_sized hW hS hbs (fun hsz => ?_)
  have hr : z_R v := ⟨by omega, by omega⟩
  have hvn : (z_i v).toNatClampNeg = N := by show (z_i v).toInt.toNat = N; rw [z_i_to hr]; omega
  have hn0 : ¬ z_i v < 0 := fun q => by have := (z_i_lt hr z_R0).mp q; omega
  refine W.anew hx hb hown (hts _ hw) (va_AO.use hK.2.2.2) rfl d rfl hn0 (by rw [hvn]; omega) (by rw [hrc]; exact hcs.1) (by rw [hvn, hrs]; exact hcs.2) fun cA kA comp f1 f2 f3 f4 => ?_
  rw [hvn]
  generalize hH1 : H.push ({ cls := cA, slots := Array.replicate N .null, vm := .none } : Cell) = H1
  have z1 : H1.size = H.size + 1 := by rw [← hH1, Array.size_push]
  have e1 : H1[H.size]? = some (arrV cA N (fun _ => .null)) := by rw [← hH1, Array.getElem?_push_size, ← arrV_new]
  have o1 : ∀ q : Nat, q < H.size → H1[q]? = H[q]? := fun q hq => by rw [← hH1, Array.getElem?_push, if_neg (Nat.ne_of_lt hq)]
  obtain ⟨kA', comp', k1, k2, k3, k4⟩ := (hK.1.2 3 _ rfl).2
  have hcA : cA = ca 4 := by
    first | exact Option.some.inj (f4.symm.trans k4) | exact Option.some.inj (f1.symm.trans k4)
  subst hcA
  have hP1 : va_P D vwCl (z_w ca base n h ++ [(base + n, .inl (ca 4, N, .inr (.inr (.inr (.inr fun _ => z_on base (-1))))))]) H1 := by
    refine (va_P.kept hW.2 (fun k x hx => o1 x.1 ((hW.2 k x hx).lt))).app (fun k x hx => ?_)
    have hz : k < 1 := (List.getElem?_eq_some_iff.mp hx).1
    rw [show k = 0 by omega] at hx
    cases hx
    rw [hsz] at e1
    exact e1
  have hw : z_W D ca base (n + 1) (z_nw h n (4, N)) H1 := z_W_push hP1 hk (fun k hkn => z_nw_lt h hkn) (by rw [z_nw_at]; rfl)
  have g := kk H1 locs ls ⟨by have := hW.1; show base + (n + 1) = s.heap.size + (cells + 1); omega, hw⟩ ⟨Nat.le_trans hS.1 (by omega), fun x h1 h2 => (o1 x (Nat.lt_of_lt_of_le h1 hS.1)).trans (hS.2.1 x h1 h2), hS.2.2⟩ hL
  rw [List.map_cons, z_v_ref (show (0 : Int) ≤ (n : Int) by omega)] at g
  rw [hsz]
  exact g
theorem V_objI {Γ : z_C} {M : z_M} {a : Nat × Nat × Nat} {pc : Nat} {L st : List (Nat × Int)} {h : z_H} {idx : Nat} {k : Int} (X : z_Ok Γ M) (d : decode M.2.1 pc = .ok (.invokespecial idx, 3)) (hk : 0 ≤ k) (hl : Cond.methodLink M.1.cls idx Lib.objectInit ∈ z_gw) (hi : Cond.instanceMethod Lib.objectInit ∈ z_gw) (hc : Cond.code Lib.objectInit ⟨#[0xb1]⟩ 1 none ∈ z_gw) (hR : 1 ≤ M.2.2.2.2.1 ∧ z_wd st + 12 ≤ M.2.2.2.2.2.1) (kk : z_V Γ a (pc + 3) L st h) : z_V Γ a pc L ((2, k) :: st) h := by
  obtain ⟨p, l, e, R, s, m, args, below, meth, c, Q, D, ca, base⟩ := Γ
  obtain ⟨y, cc, nL, ret, fr, lo, rc, rs⟩ := M
  obtain ⟨n, cells, slots⟩ := a
  obtain ⟨hx, hb, hml, hown, hts, hlk, hrt, hfr, hlo, hrc, hrs, hK, hbs, hnm⟩ := X
  intro H locs ls hW hS hL
  rw [List.map_cons, z_v_ref hk]
  exact W.objInit hx hb hown (hts _ hl) (hts _ hi) (hts _ hc) rfl hL.1 rfl d (by rw [hfr]; exact hR.1) (by show 2 * 0 + _ + 12 ≤ _; rw [z_wd_eq, hlo]; have h2 : z_wd st + 12 ≤ lo := hR.2; omega) (kk H locs ls hW hS hL)
/-- one row copied over another, places 0 to N -/
def z_cp (h : z_H) (k1 k2 : Int) (N : Nat) : z_H := fun q r => if q = k2 then (if 0 ≤ r ∧ r < N then h k1 r else h k2 r) else h q r
theorem V_acopy {Γ : z_C} {M : z_M} {a : Nat × Nat × Nat} {pc : Nat} {L st : List (Nat × Int)} {h : z_H} {idx N N1 N2 : Nat} {k1 k2 v : Int} (X : z_Ok Γ M) (d : decode M.2.1 pc = .ok (.invokestatic idx, 3)) (hl : Cond.methodLink M.1.cls idx arraycopyName ∈ z_gw) (hnt : Cond.native arraycopyName ∈ z_gw) (hst : Cond.static arraycopyName ∈ z_gw) (hin : Cond.initialized "java/lang/System" ∈ z_gw) (hk1 : z_kd a.1 k1 = (1, N1)) (hk2 : z_kd a.1 k2 = (1, N2)) (hv : v = (N : Int)) (h1 : N ≤ N1) (h2 : N ≤ N2) (hN : N < 100000) (hR : 1 ≤ M.2.2.2.2.1 ∧ z_wd st + (nativeFrameWords "java/lang/System" "arraycopy" 5 + 11) ≤ M.2.2.2.2.2.1) (kk : z_V Γ a (pc + 3) L st (z_cp h k1 k2 N)) : z_V Γ a pc L ((0, v) :: (0, 0) :: (2, k2) :: (0, 0) :: (2, k1) :: st) h := by
  obtain ⟨p, l, e, R, s, m, args, below, meth, c, Q, D, ca, base⟩ := Γ
  obtain ⟨y, cc, nL, ret, fr, lo, rc, rs⟩ := M
  obtain ⟨n, cells, slots⟩ := a
  obtain ⟨hx, hb, hml, hown, hts, hlk, hrt, hfr, hlo, hrc, hrs, hK, hbs, hnm⟩ := X
  intro H locs ls hW hS hL
  have k10 := (z_kd_spec hk1 (Nat.ne_of_beq_eq_false rfl)).1
  have k20 := (z_kd_spec hk2 (Nat.ne_of_beq_eq_false rfl)).1
  have hr : z_R v := ⟨by omega, by omega⟩
  have hvn : (z_i v).toNatClampNeg = N := by show (z_i v).toInt.toNat = N; rw [z_i_to hr]; omega
  have hn0 : ¬ z_i v < 0 := fun q => by have := (z_i_lt hr z_R0).mp q; omega
  have hz0 : (z_i 0).toNatClampNeg = 0 := rfl
  rw [List.map_cons, List.map_cons, List.map_cons, List.map_cons, List.map_cons, z_v_ref k10, z_v_ref k20]
  refine va_copyi (D := D) (c0 := ca 1) (c1 := ca 1) (ty := .int) (n0 := N1) (n1 := N2) (f := fun j => z_i (h k1 j)) (g := fun j => z_i (h k2 j)) hx hb hL.1.symm hown (hts _ hl) (hts _ hnt) (hts _ hst) (hts _ hin) hK.1 hW.2 (z_D ca base n h) hS k1.toNat k2.toNat 0 0 (z_w_at hk1 (Nat.ne_of_beq_eq_false rfl)) (z_w_at hk2 (Nat.ne_of_beq_eq_false rfl)) rfl rfl rfl (by decide) (by decide) hn0 (by rw [hz0, hvn]; omega) (by rw [hz0, hvn]; omega) (fun _ _ => rfl) (by rw [hfr]; exact hR.1) (by rw [z_wd_eq, hlo]; exact hR.2) d (fun H1 locs1 hP1 hD1 hS1 => ?_)
  refine kk H1 locs1 ls ⟨hW.1, ?_⟩ hS1 hL
  show va_P _ _ _ _
  rw [hz0, hvn] at hP1
  rw [← z_w_set (ca := ca) (base := base) (h := h) (h' := z_cp h k1 k2 N) hk2 (Nat.ne_of_beq_eq_false rfl) rfl (fun q hq => by funext r; unfold z_cp; rw [if_neg hq])]
  have e : (fun j : Nat => z_i (z_cp h k1 k2 N k2 j)) = va_cpy (fun j : Nat => z_i (h k1 j)) (fun j : Nat => z_i (h k2 j)) 0 0 N := by
    funext j
    unfold z_cp va_cpy
    rw [if_pos rfl]
    by_cases hj : j < N
    · rw [if_pos ⟨by omega, by omega⟩, if_pos ⟨by omega, by omega⟩]
      simp
    · rw [if_neg (by omega), if_neg (by omega)]
  show va_P D vwCl ((z_w ca base n h).set k2.toNat (base + k2.toNat, .inl (ca 1, N2, .inl fun j : Nat => z_i (z_cp h k1 k2 N k2 j)))) H1
  rw [e]
  exact hP1
/-- ways to go on: a value that two ways bring, a name for a value -/
theorem V_top {Γ : z_C} {a : Nat × Nat × Nat} {pc : Nat} {L st : List (Nat × Int)} {h : z_H} {t : Nat} {v : Int} (k : ∀ z, z = v → z_V Γ a pc L ((t, z) :: st) h) : z_V Γ a pc L ((t, v) :: st) h := k v rfl
theorem V_joinS {Γ : z_C} {a : Nat × Nat × Nat} {pc : Nat} {L st : List (Nat × Int)} {h : z_H} (pcJ : Nat) (P : Int → Prop) (b : (∀ z, P z → z_V Γ a pcJ L ((0, z) :: st) h) → z_V Γ a pc L st h) (k : ∀ z, P z → z_V Γ a pcJ L ((0, z) :: st) h) : z_V Γ a pc L st h := b k
theorem V_joinL {Γ : z_C} {a : Nat × Nat × Nat} {pc : Nat} {L st : List (Nat × Int)} {h : z_H} (pcJ i : Nat) (P : Int → Prop) (b : (∀ z, P z → z_V Γ a pcJ (L.set i (0, z)) st h) → z_V Γ a pc L st h) (k : ∀ z, P z → z_V Γ a pcJ (L.set i (0, z)) st h) : z_V Γ a pc L st h := b k
theorem V_heap {Γ : z_C} {a : Nat × Nat × Nat} {pc : Nat} {L st : List (Nat × Int)} {h h' : z_H} (e : h = h') (k : z_V Γ a pc L st h') : z_V Γ a pc L st h := e ▸ k
theorem V_loc {Γ : z_C} {a : Nat × Nat × Nat} {pc : Nat} {L L' st : List (Nat × Int)} {h : z_H} (e : L = L') (k : z_V Γ a pc L' st h) : z_V Γ a pc L st h := e ▸ k
theorem V_stk {Γ : z_C} {a : Nat × Nat × Nat} {pc : Nat} {L st st' : List (Nat × Int)} {h : z_H} (e : st = st') (k : z_V Γ a pc L st' h) : z_V Γ a pc L st h := e ▸ k
end
section
/-! WORDS: methods with their rooms, pool entries -/
theorem z_sub (ws : List Cond) (ps : List Nat) (hp : ws = ps.filterMap (fun i => lw_tbl[i]?)) (hg : ws.all goodWord = true) : ∀ w ∈ ws, w ∈ z_gw := by
  intro w hw
  have h1 := List.all_eq_true.mp hg w hw
  rw [hp] at hw
  obtain ⟨i, -, hi⟩ := List.mem_filterMap.mp hw
  exact z_mem i hi h1
theorem i_c0 : ∀ w ∈ u_ws RX1 TX1 4, w ∈ z_gw := z_sub _ [238, 240, 242, 244] (by decide +kernel) (by decide +kernel)
theorem i_c1 : ∀ w ∈ u_ws RX2 TX2 4, w ∈ z_gw := z_sub _ [134, 136, 138, 140] (by decide +kernel) (by decide +kernel)
theorem i_c2 : ∀ w ∈ u_ws RX3 TX3 7, w ∈ z_gw := z_sub _ [197, 199, 201, 203, 205, 207, 209] (by decide +kernel) (by decide +kernel)
theorem i_c3 : ∀ w ∈ u_ws RX4 TX4 8, w ∈ z_gw := z_sub _ [80, 82, 84, 86, 88, 90, 92, 94] (by decide +kernel) (by decide +kernel)
theorem i_c4 : ∀ w ∈ u_ws RX5 TX5 2, w ∈ z_gw := z_sub _ [219, 221] (by decide +kernel) (by decide +kernel)
theorem i_c5 : ∀ w ∈ u_ws RX6 TX6 3, w ∈ z_gw := z_sub _ [150, 152, 154] (by decide +kernel) (by decide +kernel)
theorem i_c6 : ∀ w ∈ u_ws RX7 TX7 1, w ∈ z_gw := z_sub _ [254] (by decide +kernel) (by decide +kernel)
theorem i_c7 : ∀ w ∈ u_ws RX8 TX8 3, w ∈ z_gw := z_sub _ [267, 269, 271] (by decide +kernel) (by decide +kernel)
theorem i_c8 : ∀ w ∈ u_ws RX9 TX9 9, w ∈ z_gw := z_sub _ [293, 295, 297, 299, 301, 303, 305, 307, 309] (by decide +kernel) (by decide +kernel)
theorem i_c9 : ∀ w ∈ u_ws RX10 TX10 34, w ∈ z_gw := z_sub _ [786, 788, 790, 792, 794, 796, 798, 800, 802, 804, 806, 808, 810, 812, 814, 816, 818, 820, 822, 824, 826, 828, 830, 832, 834, 836, 838, 840, 842, 844, 846, 848, 850, 852] (by decide +kernel) (by decide +kernel)
theorem f_RX9_12 : z_F RX9 12 8 0 2 true := ⟨RX9, TX9, rfl, by decide, i_c8, tyX9_ok, nmX9, z_mem 284 (by decide +kernel) (by decide +kernel), rfl, rfl, rfl⟩
theorem f_RX9_19 : z_F RX9 19 8 1 2 true := ⟨RX9, TX9, rfl, by decide, i_c8, tyX9_ok, nmX9, z_mem 285 (by decide +kernel) (by decide +kernel), rfl, rfl, rfl⟩
theorem f_RX9_26 : z_F RX9 26 8 2 2 true := ⟨RX9, TX9, rfl, by decide, i_c8, tyX9_ok, nmX9, z_mem 286 (by decide +kernel) (by decide +kernel), rfl, rfl, rfl⟩
theorem f_RX9_33 : z_F RX9 33 8 3 2 true := ⟨RX9, TX9, rfl, by decide, i_c8, tyX9_ok, nmX9, z_mem 287 (by decide +kernel) (by decide +kernel), rfl, rfl, rfl⟩
theorem f_RX9_40 : z_F RX9 40 8 4 2 true := ⟨RX9, TX9, rfl, by decide, i_c8, tyX9_ok, nmX9, z_mem 288 (by decide +kernel) (by decide +kernel), rfl, rfl, rfl⟩
theorem f_RX9_46 : z_F RX9 46 8 5 2 true := ⟨RX9, TX9, rfl, by decide, i_c8, tyX9_ok, nmX9, z_mem 289 (by decide +kernel) (by decide +kernel), rfl, rfl, rfl⟩
theorem f_RX9_53 : z_F RX9 53 8 6 2 false := ⟨RX9, TX9, rfl, by decide, i_c8, tyX9_ok, nmX9, z_mem 290 (by decide +kernel) (by decide +kernel), rfl, rfl, rfl⟩
theorem f_RX9_58 : z_F RX9 58 4 0 2 true := ⟨RX5, TX5, rfl, by decide, i_c4, tyX5_ok, nmX5, z_mem 213 (by decide +kernel) (by decide +kernel), rfl, rfl, rfl⟩
theorem f_RX9_62 : z_F RX9 62 4 1 2 false := ⟨RX5, TX5, rfl, by decide, i_c4, tyX5_ok, nmX5, z_mem 216 (by decide +kernel) (by decide +kernel), rfl, rfl, rfl⟩
theorem f_RX9_73 : z_F RX9 73 3 1 0 false := ⟨RX4, TX4, rfl, by decide, i_c3, tyX4_ok, nmX4, z_mem 73 (by decide +kernel) (by decide +kernel), rfl, rfl, rfl⟩
theorem f_RX9_81 : z_F RX9 81 8 7 0 false := ⟨RX9, TX9, rfl, by decide, i_c8, tyX9_ok, nmX9, z_mem 291 (by decide +kernel) (by decide +kernel), rfl, rfl, rfl⟩
theorem f_RX9_84 : z_F RX9 84 7 2 0 false := ⟨RX8, TX8, rfl, by decide, i_c7, tyX8_ok, nmX8, z_mem 266 (by decide +kernel) (by decide +kernel), rfl, rfl, rfl⟩
theorem f_RX9_91 : z_F RX9 91 2 0 2 true := ⟨RX3, TX3, rfl, by decide, i_c2, tyX3_ok, nmX3, z_mem 172 (by decide +kernel) (by decide +kernel), rfl, rfl, rfl⟩
theorem f_RX9_98 : z_F RX9 98 5 2 2 false := ⟨RX6, TX6, rfl, by decide, i_c5, tyX6_ok, nmX6, z_mem 149 (by decide +kernel) (by decide +kernel), rfl, rfl, rfl⟩
theorem f_RX9_102 : z_F RX9 102 1 0 2 true := ⟨RX2, TX2, rfl, by decide, i_c1, tyX2_ok, nmX2, z_mem 120 (by decide +kernel) (by decide +kernel), rfl, rfl, rfl⟩
theorem f_RX9_114 : z_F RX9 114 2 1 2 true := ⟨RX3, TX3, rfl, by decide, i_c2, tyX3_ok, nmX3, z_mem 178 (by decide +kernel) (by decide +kernel), rfl, rfl, rfl⟩
theorem f_RX9_132 : z_F RX9 132 1 1 0 false := ⟨RX2, TX2, rfl, by decide, i_c1, tyX2_ok, nmX2, z_mem 125 (by decide +kernel) (by decide +kernel), rfl, rfl, rfl⟩
theorem f_RX9_135 : z_F RX9 135 1 2 0 false := ⟨RX2, TX2, rfl, by decide, i_c1, tyX2_ok, nmX2, z_mem 129 (by decide +kernel) (by decide +kernel), rfl, rfl, rfl⟩
theorem f_RX9_138 : z_F RX9 138 1 3 0 false := ⟨RX2, TX2, rfl, by decide, i_c1, tyX2_ok, nmX2, z_mem 133 (by decide +kernel) (by decide +kernel), rfl, rfl, rfl⟩
theorem f_RX9_145 : z_F RX9 145 5 1 0 false := ⟨RX6, TX6, rfl, by decide, i_c5, tyX6_ok, nmX6, z_mem 145 (by decide +kernel) (by decide +kernel), rfl, rfl, rfl⟩
theorem f_RX9_186 : z_F RX9 186 0 0 0 false := ⟨RX1, TX1, rfl, by decide, i_c0, tyX1_ok, nmX1, z_mem 231 (by decide +kernel) (by decide +kernel), rfl, rfl, rfl⟩
theorem f_RX9_190 : z_F RX9 190 0 1 0 false := ⟨RX1, TX1, rfl, by decide, i_c0, tyX1_ok, nmX1, z_mem 233 (by decide +kernel) (by decide +kernel), rfl, rfl, rfl⟩
theorem f_RX9_193 : z_F RX9 193 0 2 0 false := ⟨RX1, TX1, rfl, by decide, i_c0, tyX1_ok, nmX1, z_mem 235 (by decide +kernel) (by decide +kernel), rfl, rfl, rfl⟩
theorem f_RX9_196 : z_F RX9 196 0 3 0 false := ⟨RX1, TX1, rfl, by decide, i_c0, tyX1_ok, nmX1, z_mem 237 (by decide +kernel) (by decide +kernel), rfl, rfl, rfl⟩
theorem f_RX9_255 : z_F RX9 255 2 2 0 false := ⟨RX3, TX3, rfl, by decide, i_c2, tyX3_ok, nmX3, z_mem 182 (by decide +kernel) (by decide +kernel), rfl, rfl, rfl⟩
theorem f_RX9_258 : z_F RX9 258 2 3 0 false := ⟨RX3, TX3, rfl, by decide, i_c2, tyX3_ok, nmX3, z_mem 186 (by decide +kernel) (by decide +kernel), rfl, rfl, rfl⟩
theorem f_RX9_261 : z_F RX9 261 2 4 0 false := ⟨RX3, TX3, rfl, by decide, i_c2, tyX3_ok, nmX3, z_mem 190 (by decide +kernel) (by decide +kernel), rfl, rfl, rfl⟩
theorem f_RX9_262 : z_F RX9 262 8 8 1 false := ⟨RX9, TX9, rfl, by decide, i_c8, tyX9_ok, nmX9, z_mem 292 (by decide +kernel) (by decide +kernel), rfl, rfl, rfl⟩
theorem f_RX1_24 : z_F RX1 24 0 0 0 false := ⟨RX1, TX1, rfl, by decide, i_c0, tyX1_ok, nmX1, z_mem 230 (by decide +kernel) (by decide +kernel), rfl, rfl, rfl⟩
theorem f_RX1_38 : z_F RX1 38 4 1 2 false := ⟨RX5, TX5, rfl, by decide, i_c4, tyX5_ok, nmX5, z_mem 217 (by decide +kernel) (by decide +kernel), rfl, rfl, rfl⟩
theorem f_RX1_42 : z_F RX1 42 2 1 2 true := ⟨RX3, TX3, rfl, by decide, i_c2, tyX3_ok, nmX3, z_mem 175 (by decide +kernel) (by decide +kernel), rfl, rfl, rfl⟩
theorem f_RX1_56 : z_F RX1 56 0 1 0 false := ⟨RX1, TX1, rfl, by decide, i_c0, tyX1_ok, nmX1, z_mem 232 (by decide +kernel) (by decide +kernel), rfl, rfl, rfl⟩
theorem f_RX1_60 : z_F RX1 60 0 2 0 false := ⟨RX1, TX1, rfl, by decide, i_c0, tyX1_ok, nmX1, z_mem 234 (by decide +kernel) (by decide +kernel), rfl, rfl, rfl⟩
theorem f_RX1_63 : z_F RX1 63 0 3 0 false := ⟨RX1, TX1, rfl, by decide, i_c0, tyX1_ok, nmX1, z_mem 236 (by decide +kernel) (by decide +kernel), rfl, rfl, rfl⟩
theorem f_RX2_9 : z_F RX2 9 1 0 2 true := ⟨RX2, TX2, rfl, by decide, i_c1, tyX2_ok, nmX2, z_mem 117 (by decide +kernel) (by decide +kernel), rfl, rfl, rfl⟩
theorem f_RX2_21 : z_F RX2 21 1 1 0 false := ⟨RX2, TX2, rfl, by decide, i_c1, tyX2_ok, nmX2, z_mem 122 (by decide +kernel) (by decide +kernel), rfl, rfl, rfl⟩
theorem f_RX2_25 : z_F RX2 25 1 2 0 false := ⟨RX2, TX2, rfl, by decide, i_c1, tyX2_ok, nmX2, z_mem 126 (by decide +kernel) (by decide +kernel), rfl, rfl, rfl⟩
theorem f_RX2_28 : z_F RX2 28 1 3 0 false := ⟨RX2, TX2, rfl, by decide, i_c1, tyX2_ok, nmX2, z_mem 130 (by decide +kernel) (by decide +kernel), rfl, rfl, rfl⟩
theorem f_RX3_9 : z_F RX3 9 2 0 2 true := ⟨RX3, TX3, rfl, by decide, i_c2, tyX3_ok, nmX3, z_mem 170 (by decide +kernel) (by decide +kernel), rfl, rfl, rfl⟩
theorem f_RX3_15 : z_F RX3 15 2 1 2 true := ⟨RX3, TX3, rfl, by decide, i_c2, tyX3_ok, nmX3, z_mem 174 (by decide +kernel) (by decide +kernel), rfl, rfl, rfl⟩
theorem f_RX3_21 : z_F RX3 21 2 2 0 false := ⟨RX3, TX3, rfl, by decide, i_c2, tyX3_ok, nmX3, z_mem 179 (by decide +kernel) (by decide +kernel), rfl, rfl, rfl⟩
theorem f_RX3_25 : z_F RX3 25 2 3 0 false := ⟨RX3, TX3, rfl, by decide, i_c2, tyX3_ok, nmX3, z_mem 183 (by decide +kernel) (by decide +kernel), rfl, rfl, rfl⟩
theorem f_RX3_34 : z_F RX3 34 2 4 0 false := ⟨RX3, TX3, rfl, by decide, i_c2, tyX3_ok, nmX3, z_mem 187 (by decide +kernel) (by decide +kernel), rfl, rfl, rfl⟩
theorem f_RX3_37 : z_F RX3 37 2 5 0 false := ⟨RX3, TX3, rfl, by decide, i_c2, tyX3_ok, nmX3, z_mem 191 (by decide +kernel) (by decide +kernel), rfl, rfl, rfl⟩
theorem f_RX3_40 : z_F RX3 40 2 6 0 false := ⟨RX3, TX3, rfl, by decide, i_c2, tyX3_ok, nmX3, z_mem 194 (by decide +kernel) (by decide +kernel), rfl, rfl, rfl⟩
theorem f_RX4_11 : z_F RX4 11 3 0 2 true := ⟨RX4, TX4, rfl, by decide, i_c3, tyX4_ok, nmX4, z_mem 71 (by decide +kernel) (by decide +kernel), rfl, rfl, rfl⟩
theorem f_RX4_15 : z_F RX4 15 3 1 0 false := ⟨RX4, TX4, rfl, by decide, i_c3, tyX4_ok, nmX4, z_mem 72 (by decide +kernel) (by decide +kernel), rfl, rfl, rfl⟩
theorem f_RX4_24 : z_F RX4 24 3 6 0 false := ⟨RX4, TX4, rfl, by decide, i_c3, tyX4_ok, nmX4, z_mem 78 (by decide +kernel) (by decide +kernel), rfl, rfl, rfl⟩
theorem f_RX4_28 : z_F RX4 28 3 7 0 false := ⟨RX4, TX4, rfl, by decide, i_c3, tyX4_ok, nmX4, z_mem 79 (by decide +kernel) (by decide +kernel), rfl, rfl, rfl⟩
theorem f_RX4_31 : z_F RX4 31 3 2 0 false := ⟨RX4, TX4, rfl, by decide, i_c3, tyX4_ok, nmX4, z_mem 74 (by decide +kernel) (by decide +kernel), rfl, rfl, rfl⟩
theorem f_RX4_37 : z_F RX4 37 3 4 0 false := ⟨RX4, TX4, rfl, by decide, i_c3, tyX4_ok, nmX4, z_mem 76 (by decide +kernel) (by decide +kernel), rfl, rfl, rfl⟩
theorem f_RX4_44 : z_F RX4 44 3 3 0 false := ⟨RX4, TX4, rfl, by decide, i_c3, tyX4_ok, nmX4, z_mem 75 (by decide +kernel) (by decide +kernel), rfl, rfl, rfl⟩
theorem f_RX4_47 : z_F RX4 47 3 5 0 false := ⟨RX4, TX4, rfl, by decide, i_c3, tyX4_ok, nmX4, z_mem 77 (by decide +kernel) (by decide +kernel), rfl, rfl, rfl⟩
theorem f_RX4_57 : z_F RX4 57 2 4 0 false := ⟨RX3, TX3, rfl, by decide, i_c2, tyX3_ok, nmX3, z_mem 188 (by decide +kernel) (by decide +kernel), rfl, rfl, rfl⟩
theorem f_RX4_73 : z_F RX4 73 2 2 0 false := ⟨RX3, TX3, rfl, by decide, i_c2, tyX3_ok, nmX3, z_mem 181 (by decide +kernel) (by decide +kernel), rfl, rfl, rfl⟩
theorem f_RX4_76 : z_F RX4 76 2 3 0 false := ⟨RX3, TX3, rfl, by decide, i_c2, tyX3_ok, nmX3, z_mem 185 (by decide +kernel) (by decide +kernel), rfl, rfl, rfl⟩
theorem f_RX4_83 : z_F RX4 83 2 0 2 true := ⟨RX3, TX3, rfl, by decide, i_c2, tyX3_ok, nmX3, z_mem 173 (by decide +kernel) (by decide +kernel), rfl, rfl, rfl⟩
theorem f_RX4_89 : z_F RX4 89 2 5 0 false := ⟨RX3, TX3, rfl, by decide, i_c2, tyX3_ok, nmX3, z_mem 193 (by decide +kernel) (by decide +kernel), rfl, rfl, rfl⟩
theorem f_RX4_91 : z_F RX4 91 2 6 0 false := ⟨RX3, TX3, rfl, by decide, i_c2, tyX3_ok, nmX3, z_mem 196 (by decide +kernel) (by decide +kernel), rfl, rfl, rfl⟩
theorem f_RX5_12 : z_F RX5 12 4 0 2 true := ⟨RX5, TX5, rfl, by decide, i_c4, tyX5_ok, nmX5, z_mem 212 (by decide +kernel) (by decide +kernel), rfl, rfl, rfl⟩
theorem f_RX5_21 : z_F RX5 21 4 1 2 false := ⟨RX5, TX5, rfl, by decide, i_c4, tyX5_ok, nmX5, z_mem 215 (by decide +kernel) (by decide +kernel), rfl, rfl, rfl⟩
theorem f_RX5_25 : z_F RX5 25 2 2 0 false := ⟨RX3, TX3, rfl, by decide, i_c2, tyX3_ok, nmX3, z_mem 180 (by decide +kernel) (by decide +kernel), rfl, rfl, rfl⟩
theorem f_RX5_29 : z_F RX5 29 2 3 0 false := ⟨RX3, TX3, rfl, by decide, i_c2, tyX3_ok, nmX3, z_mem 184 (by decide +kernel) (by decide +kernel), rfl, rfl, rfl⟩
theorem f_RX5_36 : z_F RX5 36 5 2 2 false := ⟨RX6, TX6, rfl, by decide, i_c5, tyX6_ok, nmX6, z_mem 147 (by decide +kernel) (by decide +kernel), rfl, rfl, rfl⟩
theorem f_RX5_40 : z_F RX5 40 1 1 0 false := ⟨RX2, TX2, rfl, by decide, i_c1, tyX2_ok, nmX2, z_mem 124 (by decide +kernel) (by decide +kernel), rfl, rfl, rfl⟩
theorem f_RX5_49 : z_F RX5 49 2 0 2 true := ⟨RX3, TX3, rfl, by decide, i_c2, tyX3_ok, nmX3, z_mem 171 (by decide +kernel) (by decide +kernel), rfl, rfl, rfl⟩
theorem f_RX5_57 : z_F RX5 57 2 1 2 true := ⟨RX3, TX3, rfl, by decide, i_c2, tyX3_ok, nmX3, z_mem 177 (by decide +kernel) (by decide +kernel), rfl, rfl, rfl⟩
theorem f_RX5_60 : z_F RX5 60 1 0 2 true := ⟨RX2, TX2, rfl, by decide, i_c1, tyX2_ok, nmX2, z_mem 121 (by decide +kernel) (by decide +kernel), rfl, rfl, rfl⟩
theorem f_RX5_63 : z_F RX5 63 2 4 0 false := ⟨RX3, TX3, rfl, by decide, i_c2, tyX3_ok, nmX3, z_mem 189 (by decide +kernel) (by decide +kernel), rfl, rfl, rfl⟩
theorem f_RX5_71 : z_F RX5 71 1 2 0 false := ⟨RX2, TX2, rfl, by decide, i_c1, tyX2_ok, nmX2, z_mem 128 (by decide +kernel) (by decide +kernel), rfl, rfl, rfl⟩
theorem f_RX5_79 : z_F RX5 79 1 3 0 false := ⟨RX2, TX2, rfl, by decide, i_c1, tyX2_ok, nmX2, z_mem 132 (by decide +kernel) (by decide +kernel), rfl, rfl, rfl⟩
theorem f_RX6_11 : z_F RX6 11 5 0 2 true := ⟨RX6, TX6, rfl, by decide, i_c5, tyX6_ok, nmX6, z_mem 143 (by decide +kernel) (by decide +kernel), rfl, rfl, rfl⟩
theorem f_RX6_16 : z_F RX6 16 5 2 2 false := ⟨RX6, TX6, rfl, by decide, i_c5, tyX6_ok, nmX6, z_mem 146 (by decide +kernel) (by decide +kernel), rfl, rfl, rfl⟩
theorem f_RX6_20 : z_F RX6 20 5 1 0 false := ⟨RX6, TX6, rfl, by decide, i_c5, tyX6_ok, nmX6, z_mem 144 (by decide +kernel) (by decide +kernel), rfl, rfl, rfl⟩
theorem f_RX6_24 : z_F RX6 24 1 0 2 true := ⟨RX2, TX2, rfl, by decide, i_c1, tyX2_ok, nmX2, z_mem 118 (by decide +kernel) (by decide +kernel), rfl, rfl, rfl⟩
theorem f_RX6_34 : z_F RX6 34 1 1 0 false := ⟨RX2, TX2, rfl, by decide, i_c1, tyX2_ok, nmX2, z_mem 123 (by decide +kernel) (by decide +kernel), rfl, rfl, rfl⟩
theorem f_RX6_37 : z_F RX6 37 2 5 0 false := ⟨RX3, TX3, rfl, by decide, i_c2, tyX3_ok, nmX3, z_mem 192 (by decide +kernel) (by decide +kernel), rfl, rfl, rfl⟩
theorem f_RX6_42 : z_F RX6 42 1 2 0 false := ⟨RX2, TX2, rfl, by decide, i_c1, tyX2_ok, nmX2, z_mem 127 (by decide +kernel) (by decide +kernel), rfl, rfl, rfl⟩
theorem f_RX6_43 : z_F RX6 43 2 6 0 false := ⟨RX3, TX3, rfl, by decide, i_c2, tyX3_ok, nmX3, z_mem 195 (by decide +kernel) (by decide +kernel), rfl, rfl, rfl⟩
theorem f_RX6_46 : z_F RX6 46 1 3 0 false := ⟨RX2, TX2, rfl, by decide, i_c1, tyX2_ok, nmX2, z_mem 131 (by decide +kernel) (by decide +kernel), rfl, rfl, rfl⟩
theorem f_RX7_9 : z_F RX7 9 6 0 2 true := ⟨RX7, TX7, rfl, by decide, i_c6, tyX7_ok, nmX7, z_mem 253 (by decide +kernel) (by decide +kernel), rfl, rfl, rfl⟩
theorem f_RX8_11 : z_F RX8 11 7 0 2 true := ⟨RX8, TX8, rfl, by decide, i_c7, tyX8_ok, nmX8, z_mem 263 (by decide +kernel) (by decide +kernel), rfl, rfl, rfl⟩
theorem f_RX8_15 : z_F RX8 15 7 1 2 true := ⟨RX8, TX8, rfl, by decide, i_c7, tyX8_ok, nmX8, z_mem 264 (by decide +kernel) (by decide +kernel), rfl, rfl, rfl⟩
theorem f_RX8_18 : z_F RX8 18 7 2 0 false := ⟨RX8, TX8, rfl, by decide, i_c7, tyX8_ok, nmX8, z_mem 265 (by decide +kernel) (by decide +kernel), rfl, rfl, rfl⟩
theorem f_RX8_40 : z_F RX8 40 4 1 2 false := ⟨RX5, TX5, rfl, by decide, i_c4, tyX5_ok, nmX5, z_mem 218 (by decide +kernel) (by decide +kernel), rfl, rfl, rfl⟩
theorem f_RX8_44 : z_F RX8 44 2 1 2 true := ⟨RX3, TX3, rfl, by decide, i_c2, tyX3_ok, nmX3, z_mem 176 (by decide +kernel) (by decide +kernel), rfl, rfl, rfl⟩
theorem f_RX8_49 : z_F RX8 49 4 0 2 true := ⟨RX5, TX5, rfl, by decide, i_c4, tyX5_ok, nmX5, z_mem 214 (by decide +kernel) (by decide +kernel), rfl, rfl, rfl⟩
theorem f_RX8_53 : z_F RX8 53 5 2 2 false := ⟨RX6, TX6, rfl, by decide, i_c5, tyX6_ok, nmX6, z_mem 148 (by decide +kernel) (by decide +kernel), rfl, rfl, rfl⟩
theorem f_RX8_59 : z_F RX8 59 1 0 2 true := ⟨RX2, TX2, rfl, by decide, i_c1, tyX2_ok, nmX2, z_mem 119 (by decide +kernel) (by decide +kernel), rfl, rfl, rfl⟩
theorem f_RX10_7 : z_F RX10 7 9 0 0 false := ⟨RX10, TX10, rfl, by decide, i_c9, tyX10_ok, nmX10, z_mem 752 (by decide +kernel) (by decide +kernel), rfl, rfl, rfl⟩
theorem f_RX10_13 : z_F RX10 13 9 1 0 false := ⟨RX10, TX10, rfl, by decide, i_c9, tyX10_ok, nmX10, z_mem 753 (by decide +kernel) (by decide +kernel), rfl, rfl, rfl⟩
theorem f_RX10_16 : z_F RX10 16 9 2 2 true := ⟨RX10, TX10, rfl, by decide, i_c9, tyX10_ok, nmX10, z_mem 754 (by decide +kernel) (by decide +kernel), rfl, rfl, rfl⟩
theorem f_RX10_20 : z_F RX10 20 9 3 2 true := ⟨RX10, TX10, rfl, by decide, i_c9, tyX10_ok, nmX10, z_mem 755 (by decide +kernel) (by decide +kernel), rfl, rfl, rfl⟩
theorem f_RX10_23 : z_F RX10 23 9 5 2 true := ⟨RX10, TX10, rfl, by decide, i_c9, tyX10_ok, nmX10, z_mem 757 (by decide +kernel) (by decide +kernel), rfl, rfl, rfl⟩
theorem f_RX10_26 : z_F RX10 26 9 6 2 true := ⟨RX10, TX10, rfl, by decide, i_c9, tyX10_ok, nmX10, z_mem 758 (by decide +kernel) (by decide +kernel), rfl, rfl, rfl⟩
theorem f_RX10_29 : z_F RX10 29 9 7 2 true := ⟨RX10, TX10, rfl, by decide, i_c9, tyX10_ok, nmX10, z_mem 759 (by decide +kernel) (by decide +kernel), rfl, rfl, rfl⟩
theorem f_RX10_32 : z_F RX10 32 9 9 2 true := ⟨RX10, TX10, rfl, by decide, i_c9, tyX10_ok, nmX10, z_mem 761 (by decide +kernel) (by decide +kernel), rfl, rfl, rfl⟩
theorem f_RX10_35 : z_F RX10 35 9 10 2 true := ⟨RX10, TX10, rfl, by decide, i_c9, tyX10_ok, nmX10, z_mem 762 (by decide +kernel) (by decide +kernel), rfl, rfl, rfl⟩
theorem f_RX10_38 : z_F RX10 38 9 11 2 true := ⟨RX10, TX10, rfl, by decide, i_c9, tyX10_ok, nmX10, z_mem 763 (by decide +kernel) (by decide +kernel), rfl, rfl, rfl⟩
theorem f_RX10_41 : z_F RX10 41 9 12 2 true := ⟨RX10, TX10, rfl, by decide, i_c9, tyX10_ok, nmX10, z_mem 764 (by decide +kernel) (by decide +kernel), rfl, rfl, rfl⟩
theorem f_RX10_45 : z_F RX10 45 9 13 2 true := ⟨RX10, TX10, rfl, by decide, i_c9, tyX10_ok, nmX10, z_mem 765 (by decide +kernel) (by decide +kernel), rfl, rfl, rfl⟩
theorem f_RX10_48 : z_F RX10 48 9 15 2 true := ⟨RX10, TX10, rfl, by decide, i_c9, tyX10_ok, nmX10, z_mem 767 (by decide +kernel) (by decide +kernel), rfl, rfl, rfl⟩
theorem f_RX10_51 : z_F RX10 51 9 25 2 true := ⟨RX10, TX10, rfl, by decide, i_c9, tyX10_ok, nmX10, z_mem 777 (by decide +kernel) (by decide +kernel), rfl, rfl, rfl⟩
theorem f_RX10_54 : z_F RX10 54 9 26 2 true := ⟨RX10, TX10, rfl, by decide, i_c9, tyX10_ok, nmX10, z_mem 778 (by decide +kernel) (by decide +kernel), rfl, rfl, rfl⟩
theorem f_RX10_57 : z_F RX10 57 9 30 2 true := ⟨RX10, TX10, rfl, by decide, i_c9, tyX10_ok, nmX10, z_mem 782 (by decide +kernel) (by decide +kernel), rfl, rfl, rfl⟩
theorem f_RX10_60 : z_F RX10 60 9 31 2 true := ⟨RX10, TX10, rfl, by decide, i_c9, tyX10_ok, nmX10, z_mem 783 (by decide +kernel) (by decide +kernel), rfl, rfl, rfl⟩
theorem f_RX10_63 : z_F RX10 63 9 32 2 true := ⟨RX10, TX10, rfl, by decide, i_c9, tyX10_ok, nmX10, z_mem 784 (by decide +kernel) (by decide +kernel), rfl, rfl, rfl⟩
theorem f_RX10_66 : z_F RX10 66 9 33 2 true := ⟨RX10, TX10, rfl, by decide, i_c9, tyX10_ok, nmX10, z_mem 785 (by decide +kernel) (by decide +kernel), rfl, rfl, rfl⟩
theorem f_RX10_73 : z_F RX10 73 9 8 0 false := ⟨RX10, TX10, rfl, by decide, i_c9, tyX10_ok, nmX10, z_mem 760 (by decide +kernel) (by decide +kernel), rfl, rfl, rfl⟩
theorem f_RX10_76 : z_F RX10 76 9 14 0 false := ⟨RX10, TX10, rfl, by decide, i_c9, tyX10_ok, nmX10, z_mem 766 (by decide +kernel) (by decide +kernel), rfl, rfl, rfl⟩
theorem f_RX10_85 : z_F RX10 85 9 16 0 false := ⟨RX10, TX10, rfl, by decide, i_c9, tyX10_ok, nmX10, z_mem 768 (by decide +kernel) (by decide +kernel), rfl, rfl, rfl⟩
theorem f_RX10_88 : z_F RX10 88 9 18 0 false := ⟨RX10, TX10, rfl, by decide, i_c9, tyX10_ok, nmX10, z_mem 770 (by decide +kernel) (by decide +kernel), rfl, rfl, rfl⟩
theorem f_RX10_99 : z_F RX10 99 9 19 0 false := ⟨RX10, TX10, rfl, by decide, i_c9, tyX10_ok, nmX10, z_mem 771 (by decide +kernel) (by decide +kernel), rfl, rfl, rfl⟩
theorem f_RX10_102 : z_F RX10 102 9 21 0 false := ⟨RX10, TX10, rfl, by decide, i_c9, tyX10_ok, nmX10, z_mem 773 (by decide +kernel) (by decide +kernel), rfl, rfl, rfl⟩
theorem f_RX10_105 : z_F RX10 105 9 22 0 false := ⟨RX10, TX10, rfl, by decide, i_c9, tyX10_ok, nmX10, z_mem 774 (by decide +kernel) (by decide +kernel), rfl, rfl, rfl⟩
theorem f_RX10_108 : z_F RX10 108 9 20 0 false := ⟨RX10, TX10, rfl, by decide, i_c9, tyX10_ok, nmX10, z_mem 772 (by decide +kernel) (by decide +kernel), rfl, rfl, rfl⟩
theorem f_RX10_125 : z_F RX10 125 9 23 0 false := ⟨RX10, TX10, rfl, by decide, i_c9, tyX10_ok, nmX10, z_mem 775 (by decide +kernel) (by decide +kernel), rfl, rfl, rfl⟩
theorem f_RX10_128 : z_F RX10 128 9 24 0 false := ⟨RX10, TX10, rfl, by decide, i_c9, tyX10_ok, nmX10, z_mem 776 (by decide +kernel) (by decide +kernel), rfl, rfl, rfl⟩
theorem f_RX10_131 : z_F RX10 131 9 27 0 false := ⟨RX10, TX10, rfl, by decide, i_c9, tyX10_ok, nmX10, z_mem 779 (by decide +kernel) (by decide +kernel), rfl, rfl, rfl⟩
theorem f_RX10_134 : z_F RX10 134 9 28 0 false := ⟨RX10, TX10, rfl, by decide, i_c9, tyX10_ok, nmX10, z_mem 780 (by decide +kernel) (by decide +kernel), rfl, rfl, rfl⟩
theorem f_RX10_137 : z_F RX10 137 9 29 0 false := ⟨RX10, TX10, rfl, by decide, i_c9, tyX10_ok, nmX10, z_mem 781 (by decide +kernel) (by decide +kernel), rfl, rfl, rfl⟩
theorem f_RX10_159 : z_F RX10 159 9 4 0 false := ⟨RX10, TX10, rfl, by decide, i_c9, tyX10_ok, nmX10, z_mem 756 (by decide +kernel) (by decide +kernel), rfl, rfl, rfl⟩
theorem f_RX10_285 : z_F RX10 285 9 17 1 false := ⟨RX10, TX10, rfl, by decide, i_c9, tyX10_ok, nmX10, z_mem 769 (by decide +kernel) (by decide +kernel), rfl, rfl, rfl⟩
theorem k_RX9_9 : Cond.classLink RX9 9 RX4 ∈ z_gw := z_mem 65 (by decide +kernel) (by decide +kernel)
theorem n_RX9_9 : z_N RX9 9 3 := ⟨RX4, TX4, rfl, by decide, i_c3, tyX4_ok, k_RX9_9, z_mem 66 (by decide +kernel) (by decide +kernel), z_mem 43 (by decide +kernel) (by decide +kernel)⟩
theorem k_RX9_16 : Cond.classLink RX9 16 RX5 ∈ z_gw := z_mem 98 (by decide +kernel) (by decide +kernel)
theorem n_RX9_16 : z_N RX9 16 4 := ⟨RX5, TX5, rfl, by decide, i_c4, tyX5_ok, k_RX9_16, z_mem 99 (by decide +kernel) (by decide +kernel), z_mem 44 (by decide +kernel) (by decide +kernel)⟩
theorem k_RX9_23 : Cond.classLink RX9 23 RX1 ∈ z_gw := z_mem 224 (by decide +kernel) (by decide +kernel)
theorem n_RX9_23 : z_N RX9 23 0 := ⟨RX1, TX1, rfl, by decide, i_c0, tyX1_ok, k_RX9_23, z_mem 225 (by decide +kernel) (by decide +kernel), z_mem 49 (by decide +kernel) (by decide +kernel)⟩
theorem k_RX9_30 : Cond.classLink RX9 30 RX7 ∈ z_gw := z_mem 247 (by decide +kernel) (by decide +kernel)
theorem n_RX9_30 : z_N RX9 30 6 := ⟨RX7, TX7, rfl, by decide, i_c6, tyX7_ok, k_RX9_30, z_mem 248 (by decide +kernel) (by decide +kernel), z_mem 50 (by decide +kernel) (by decide +kernel)⟩
theorem k_RX9_37 : Cond.classLink RX9 37 RX8 ∈ z_gw := z_mem 257 (by decide +kernel) (by decide +kernel)
theorem n_RX9_37 : z_N RX9 37 7 := ⟨RX8, TX8, rfl, by decide, i_c7, tyX8_ok, k_RX9_37, z_mem 258 (by decide +kernel) (by decide +kernel), z_mem 51 (by decide +kernel) (by decide +kernel)⟩
theorem k_RX9_44 : Cond.classLink RX9 44 RX6 ∈ z_gw := z_mem 274 (by decide +kernel) (by decide +kernel)
theorem n_RX9_44 : z_N RX9 44 5 := ⟨RX6, TX6, rfl, by decide, i_c5, tyX6_ok, k_RX9_44, z_mem 105 (by decide +kernel) (by decide +kernel), z_mem 45 (by decide +kernel) (by decide +kernel)⟩
theorem k_RX9_50 : Cond.classLink RX9 50 RX3 ∈ z_gw := z_mem 276 (by decide +kernel) (by decide +kernel)
theorem n_RX9_50 : z_N RX9 50 2 := ⟨RX3, TX3, rfl, by decide, i_c2, tyX3_ok, k_RX9_50, z_mem 158 (by decide +kernel) (by decide +kernel), z_mem 47 (by decide +kernel) (by decide +kernel)⟩
theorem k_RX5_9 : Cond.classLink RX5 9 RX6 ∈ z_gw := z_mem 104 (by decide +kernel) (by decide +kernel)
theorem n_RX5_9 : z_N RX5 9 5 := ⟨RX6, TX6, rfl, by decide, i_c5, tyX6_ok, k_RX5_9, z_mem 105 (by decide +kernel) (by decide +kernel), z_mem 45 (by decide +kernel) (by decide +kernel)⟩
theorem k_RX5_18 : Cond.classLink RX5 18 RX3 ∈ z_gw := z_mem 157 (by decide +kernel) (by decide +kernel)
theorem n_RX5_18 : z_N RX5 18 2 := ⟨RX3, TX3, rfl, by decide, i_c2, tyX3_ok, k_RX5_18, z_mem 158 (by decide +kernel) (by decide +kernel), z_mem 47 (by decide +kernel) (by decide +kernel)⟩
theorem k_RX6_9 : Cond.classLink RX6 9 RX2 ∈ z_gw := z_mem 110 (by decide +kernel) (by decide +kernel)
theorem n_RX6_9 : z_N RX6 9 1 := ⟨RX2, TX2, rfl, by decide, i_c1, tyX2_ok, k_RX6_9, z_mem 112 (by decide +kernel) (by decide +kernel), z_mem 46 (by decide +kernel) (by decide +kernel)⟩
theorem k_RL_7 : Cond.classLink RL 7 RX9 ∈ z_gw := z_mem 57 (by decide +kernel) (by decide +kernel)
theorem n_RL_7 : z_N RL 7 8 := ⟨RX9, TX9, rfl, by decide, i_c8, tyX9_ok, k_RL_7, z_mem 58 (by decide +kernel) (by decide +kernel), z_mem 42 (by decide +kernel) (by decide +kernel)⟩
theorem k_RL_10 : Cond.classLink RL 10 RX10 ∈ z_gw := z_mem 742 (by decide +kernel) (by decide +kernel)
theorem n_RL_10 : z_N RL 10 9 := ⟨RX10, TX10, rfl, by decide, i_c9, tyX10_ok, k_RL_10, z_mem 743 (by decide +kernel) (by decide +kernel), z_mem 52 (by decide +kernel) (by decide +kernel)⟩
abbrev mX9_init : z_M := (yX9_init, cX9_init, 2, none, 4, 83, 88, 2358)
theorem oX9_init : z_MOk mX9_init 0 := ⟨z_mem 61 (by decide +kernel) (by decide +kernel), z_mem 42 (by decide +kernel) (by decide +kernel), ⟨by decide +kernel, by decide +kernel⟩, by decide +kernel, by decide +kernel⟩
theorem eX9_init : Cond.instanceMethod yX9_init ∈ z_gw := z_mem 60 (by decide +kernel) (by decide +kernel)
abbrev mX4_init : z_M := (yX4_init, cX4_init, 1, none, 1, 20, 1, 170)
theorem oX4_init : z_MOk mX4_init 0 := ⟨z_mem 69 (by decide +kernel) (by decide +kernel), z_mem 43 (by decide +kernel) (by decide +kernel), ⟨by decide +kernel, by decide +kernel⟩, by decide +kernel, by decide +kernel⟩
theorem eX4_init : Cond.instanceMethod yX4_init ∈ z_gw := z_mem 68 (by decide +kernel) (by decide +kernel)
abbrev mX5_init : z_M := (yX5_init, cX5_init, 1, none, 3, 63, 27, 561)
theorem oX5_init : z_MOk mX5_init 0 := ⟨z_mem 102 (by decide +kernel) (by decide +kernel), z_mem 44 (by decide +kernel) (by decide +kernel), ⟨by decide +kernel, by decide +kernel⟩, by decide +kernel, by decide +kernel⟩
theorem eX5_init : Cond.instanceMethod yX5_init ∈ z_gw := z_mem 101 (by decide +kernel) (by decide +kernel)
abbrev mX6_init : z_M := (yX6_init, cX6_init, 2, none, 2, 40, 23, 275)
theorem oX6_init : z_MOk mX6_init 0 := ⟨z_mem 108 (by decide +kernel) (by decide +kernel), z_mem 45 (by decide +kernel) (by decide +kernel), ⟨by decide +kernel, by decide +kernel⟩, by decide +kernel, by decide +kernel⟩
theorem eX6_init : Cond.instanceMethod yX6_init ∈ z_gw := z_mem 107 (by decide +kernel) (by decide +kernel)
abbrev mX2_init : z_M := (yX2_init, cX2_init, 1, none, 1, 20, 1, 20)
theorem oX2_init : z_MOk mX2_init 0 := ⟨z_mem 115 (by decide +kernel) (by decide +kernel), z_mem 46 (by decide +kernel) (by decide +kernel), ⟨by decide +kernel, by decide +kernel⟩, by decide +kernel, by decide +kernel⟩
theorem eX2_init : Cond.instanceMethod yX2_init ∈ z_gw := z_mem 114 (by decide +kernel) (by decide +kernel)
abbrev mX3_init : z_M := (yX3_init, cX3_init, 1, none, 2, 43, 2, 276)
theorem oX3_init : z_MOk mX3_init 0 := ⟨z_mem 161 (by decide +kernel) (by decide +kernel), z_mem 47 (by decide +kernel) (by decide +kernel), ⟨by decide +kernel, by decide +kernel⟩, by decide +kernel, by decide +kernel⟩
theorem eX3_init : Cond.instanceMethod yX3_init ∈ z_gw := z_mem 160 (by decide +kernel) (by decide +kernel)
abbrev mX3_restart : z_M := (yX3_restart, cX3_restart, 1, none, 1, 23, 0, 0)
theorem oX3_restart : z_MOk mX3_restart 0 := ⟨z_mem 166 (by decide +kernel) (by decide +kernel), z_mem 47 (by decide +kernel) (by decide +kernel), ⟨by decide +kernel, by decide +kernel⟩, by decide +kernel, by decide +kernel⟩
theorem eX3_restart : Cond.instanceMethod yX3_restart ∈ z_gw := z_mem 164 (by decide +kernel) (by decide +kernel)
theorem vX3_restart : Cond.selects RX3 yX3_restart yX3_restart ∈ z_gw := z_mem 165 (by decide +kernel) (by decide +kernel)
abbrev mJ7_fill_53178 : z_M := (yJ7_fill_53178, cJ7_fill_53178, 4, none, 0, 0, 0, 0)
theorem oJ7_fill_53178 : z_MOk mJ7_fill_53178 2 := ⟨z_mem 169 (by decide +kernel) (by decide +kernel), z_mem 48 (by decide +kernel) (by decide +kernel), ⟨by decide +kernel, by decide +kernel⟩, by decide +kernel, by decide +kernel⟩
theorem sJ7_fill_53178 : Cond.static yJ7_fill_53178 ∈ z_gw := z_mem 168 (by decide +kernel) (by decide +kernel)
abbrev mX1_init : z_M := (yX1_init, cX1_init, 1, none, 1, 20, 0, 0)
theorem oX1_init : z_MOk mX1_init 0 := ⟨z_mem 228 (by decide +kernel) (by decide +kernel), z_mem 49 (by decide +kernel) (by decide +kernel), ⟨by decide +kernel, by decide +kernel⟩, by decide +kernel, by decide +kernel⟩
theorem eX1_init : Cond.instanceMethod yX1_init ∈ z_gw := z_mem 227 (by decide +kernel) (by decide +kernel)
abbrev mX7_init : z_M := (yX7_init, cX7_init, 1, none, 1, 20, 1, 756)
theorem oX7_init : z_MOk mX7_init 0 := ⟨z_mem 251 (by decide +kernel) (by decide +kernel), z_mem 50 (by decide +kernel) (by decide +kernel), ⟨by decide +kernel, by decide +kernel⟩, by decide +kernel, by decide +kernel⟩
theorem eX7_init : Cond.instanceMethod yX7_init ∈ z_gw := z_mem 250 (by decide +kernel) (by decide +kernel)
abbrev mX8_init : z_M := (yX8_init, cX8_init, 1, none, 1, 20, 2, 12)
theorem oX8_init : z_MOk mX8_init 0 := ⟨z_mem 261 (by decide +kernel) (by decide +kernel), z_mem 51 (by decide +kernel) (by decide +kernel), ⟨by decide +kernel, by decide +kernel⟩, by decide +kernel, by decide +kernel⟩
theorem eX8_init : Cond.instanceMethod yX8_init ∈ z_gw := z_mem 260 (by decide +kernel) (by decide +kernel)
abbrev mX6_restart : z_M := (yX6_restart, cX6_restart, 2, none, 1, 23, 0, 0)
theorem oX6_restart : z_MOk mX6_restart 1 := ⟨z_mem 282 (by decide +kernel) (by decide +kernel), z_mem 45 (by decide +kernel) (by decide +kernel), ⟨by decide +kernel, by decide +kernel⟩, by decide +kernel, by decide +kernel⟩
theorem eX6_restart : Cond.instanceMethod yX6_restart ∈ z_gw := z_mem 280 (by decide +kernel) (by decide +kernel)
theorem vX6_restart : Cond.selects RX6 yX6_restart yX6_restart ∈ z_gw := z_mem 281 (by decide +kernel) (by decide +kernel)
abbrev mX9_type : z_M := (yX9_type, cX9_type, 2, (some .int), 1, 21, 0, 0)
theorem oX9_type : z_MOk mX9_type 1 := ⟨z_mem 315 (by decide +kernel) (by decide +kernel), z_mem 42 (by decide +kernel) (by decide +kernel), ⟨by decide +kernel, by decide +kernel⟩, by decide +kernel, by decide +kernel⟩
theorem eX9_type : Cond.instanceMethod yX9_type ∈ z_gw := z_mem 313 (by decide +kernel) (by decide +kernel)
theorem vX9_type : Cond.selects RX9 yX9_type yX9_type ∈ z_gw := z_mem 314 (by decide +kernel) (by decide +kernel)
abbrev mX4_add : z_M := (yX4_add, cX4_add, 2, (some .boolean), 0, 0, 0, 0)
theorem oX4_add : z_MOk mX4_add 1 := ⟨z_mem 319 (by decide +kernel) (by decide +kernel), z_mem 43 (by decide +kernel) (by decide +kernel), ⟨by decide +kernel, by decide +kernel⟩, by decide +kernel, by decide +kernel⟩
theorem eX4_add : Cond.instanceMethod yX4_add ∈ z_gw := z_mem 317 (by decide +kernel) (by decide +kernel)
theorem vX4_add : Cond.selects RX4 yX4_add yX4_add ∈ z_gw := z_mem 318 (by decide +kernel) (by decide +kernel)
abbrev mX9_clear : z_M := (yX9_clear, cX9_clear, 2, (some .int), 0, 0, 0, 0)
theorem oX9_clear : z_MOk mX9_clear 0 := ⟨z_mem 323 (by decide +kernel) (by decide +kernel), z_mem 42 (by decide +kernel) (by decide +kernel), ⟨by decide +kernel, by decide +kernel⟩, by decide +kernel, by decide +kernel⟩
theorem eX9_clear : Cond.instanceMethod yX9_clear ∈ z_gw := z_mem 321 (by decide +kernel) (by decide +kernel)
theorem vX9_clear : Cond.selects RX9 yX9_clear yX9_clear ∈ z_gw := z_mem 322 (by decide +kernel) (by decide +kernel)
abbrev mX9_window : z_M := (yX9_window, cX9_window, 3, (some .int), 6, 130, 0, 0)
theorem oX9_window : z_MOk mX9_window 0 := ⟨z_mem 327 (by decide +kernel) (by decide +kernel), z_mem 42 (by decide +kernel) (by decide +kernel), ⟨by decide +kernel, by decide +kernel⟩, by decide +kernel, by decide +kernel⟩
theorem eX9_window : Cond.instanceMethod yX9_window ∈ z_gw := z_mem 325 (by decide +kernel) (by decide +kernel)
theorem vX9_window : Cond.selects RX9 yX9_window yX9_window ∈ z_gw := z_mem 326 (by decide +kernel) (by decide +kernel)
abbrev mX4_readInto : z_M := (yX4_readInto, cX4_readInto, 3, (some .int), 5, 108, 0, 0)
theorem oX4_readInto : z_MOk mX4_readInto 1 := ⟨z_mem 331 (by decide +kernel) (by decide +kernel), z_mem 43 (by decide +kernel) (by decide +kernel), ⟨by decide +kernel, by decide +kernel⟩, by decide +kernel, by decide +kernel⟩
theorem eX4_readInto : Cond.instanceMethod yX4_readInto ∈ z_gw := z_mem 329 (by decide +kernel) (by decide +kernel)
theorem vX4_readInto : Cond.selects RX4 yX4_readInto yX4_readInto ∈ z_gw := z_mem 330 (by decide +kernel) (by decide +kernel)
abbrev mX4_step : z_M := (yX4_step, cX4_step, 1, none, 1, 21, 0, 0)
theorem oX4_step : z_MOk mX4_step 0 := ⟨z_mem 336 (by decide +kernel) (by decide +kernel), z_mem 43 (by decide +kernel) (by decide +kernel), ⟨by decide +kernel, by decide +kernel⟩, by decide +kernel, by decide +kernel⟩
theorem eX4_step : Cond.instanceMethod yX4_step ∈ z_gw := z_mem 334 (by decide +kernel) (by decide +kernel)
theorem vX4_step : Cond.selects RX4 yX4_step yX4_step ∈ z_gw := z_mem 335 (by decide +kernel) (by decide +kernel)
abbrev mX4_letters : z_M := (yX4_letters, cX4_letters, 1, none, 0, 0, 0, 0)
theorem oX4_letters : z_MOk mX4_letters 0 := ⟨z_mem 340 (by decide +kernel) (by decide +kernel), z_mem 43 (by decide +kernel) (by decide +kernel), ⟨by decide +kernel, by decide +kernel⟩, by decide +kernel, by decide +kernel⟩
theorem eX4_letters : Cond.instanceMethod yX4_letters ∈ z_gw := z_mem 338 (by decide +kernel) (by decide +kernel)
theorem vX4_letters : Cond.selects RX4 yX4_letters yX4_letters ∈ z_gw := z_mem 339 (by decide +kernel) (by decide +kernel)
abbrev mX4_digits : z_M := (yX4_digits, cX4_digits, 2, none, 0, 0, 0, 0)
theorem oX4_digits : z_MOk mX4_digits 0 := ⟨z_mem 344 (by decide +kernel) (by decide +kernel), z_mem 43 (by decide +kernel) (by decide +kernel), ⟨by decide +kernel, by decide +kernel⟩, by decide +kernel, by decide +kernel⟩
theorem eX4_digits : Cond.instanceMethod yX4_digits ∈ z_gw := z_mem 342 (by decide +kernel) (by decide +kernel)
theorem vX4_digits : Cond.selects RX4 yX4_digits yX4_digits ∈ z_gw := z_mem 343 (by decide +kernel) (by decide +kernel)
abbrev mX4_item : z_M := (yX4_item, cX4_item, 3, (some .boolean), 4, 86, 0, 0)
theorem oX4_item : z_MOk mX4_item 2 := ⟨z_mem 348 (by decide +kernel) (by decide +kernel), z_mem 43 (by decide +kernel) (by decide +kernel), ⟨by decide +kernel, by decide +kernel⟩, by decide +kernel, by decide +kernel⟩
theorem eX4_item : Cond.instanceMethod yX4_item ∈ z_gw := z_mem 346 (by decide +kernel) (by decide +kernel)
theorem vX4_item : Cond.selects RX4 yX4_item yX4_item ∈ z_gw := z_mem 347 (by decide +kernel) (by decide +kernel)
abbrev mX4_size : z_M := (yX4_size, cX4_size, 2, (some .boolean), 3, 63, 0, 0)
theorem oX4_size : z_MOk mX4_size 1 := ⟨z_mem 352 (by decide +kernel) (by decide +kernel), z_mem 43 (by decide +kernel) (by decide +kernel), ⟨by decide +kernel, by decide +kernel⟩, by decide +kernel, by decide +kernel⟩
theorem eX4_size : Cond.instanceMethod yX4_size ∈ z_gw := z_mem 350 (by decide +kernel) (by decide +kernel)
theorem vX4_size : Cond.selects RX4 yX4_size yX4_size ∈ z_gw := z_mem 351 (by decide +kernel) (by decide +kernel)
abbrev mX4_number : z_M := (yX4_number, cX4_number, 3, (some .boolean), 2, 41, 0, 0)
theorem oX4_number : z_MOk mX4_number 2 := ⟨z_mem 356 (by decide +kernel) (by decide +kernel), z_mem 43 (by decide +kernel) (by decide +kernel), ⟨by decide +kernel, by decide +kernel⟩, by decide +kernel, by decide +kernel⟩
theorem eX4_number : Cond.instanceMethod yX4_number ∈ z_gw := z_mem 354 (by decide +kernel) (by decide +kernel)
theorem vX4_number : Cond.selects RX4 yX4_number yX4_number ∈ z_gw := z_mem 355 (by decide +kernel) (by decide +kernel)
abbrev mX4_stop : z_M := (yX4_stop, cX4_stop, 1, (some .boolean), 2, 41, 0, 0)
theorem oX4_stop : z_MOk mX4_stop 0 := ⟨z_mem 360 (by decide +kernel) (by decide +kernel), z_mem 43 (by decide +kernel) (by decide +kernel), ⟨by decide +kernel, by decide +kernel⟩, by decide +kernel, by decide +kernel⟩
theorem eX4_stop : Cond.instanceMethod yX4_stop ∈ z_gw := z_mem 358 (by decide +kernel) (by decide +kernel)
theorem vX4_stop : Cond.selects RX4 yX4_stop yX4_stop ∈ z_gw := z_mem 359 (by decide +kernel) (by decide +kernel)
abbrev mX4_glass : z_M := (yX4_glass, cX4_glass, 4, (some .boolean), 3, 63, 0, 0)
theorem oX4_glass : z_MOk mX4_glass 1 := ⟨z_mem 364 (by decide +kernel) (by decide +kernel), z_mem 43 (by decide +kernel) (by decide +kernel), ⟨by decide +kernel, by decide +kernel⟩, by decide +kernel, by decide +kernel⟩
theorem eX4_glass : Cond.instanceMethod yX4_glass ∈ z_gw := z_mem 362 (by decide +kernel) (by decide +kernel)
theorem vX4_glass : Cond.selects RX4 yX4_glass yX4_glass ∈ z_gw := z_mem 363 (by decide +kernel) (by decide +kernel)
abbrev mX4_sheetColour : z_M := (yX4_sheetColour, cX4_sheetColour, 2, (some .boolean), 3, 63, 0, 0)
theorem oX4_sheetColour : z_MOk mX4_sheetColour 1 := ⟨z_mem 368 (by decide +kernel) (by decide +kernel), z_mem 43 (by decide +kernel) (by decide +kernel), ⟨by decide +kernel, by decide +kernel⟩, by decide +kernel, by decide +kernel⟩
theorem eX4_sheetColour : Cond.instanceMethod yX4_sheetColour ∈ z_gw := z_mem 366 (by decide +kernel) (by decide +kernel)
theorem vX4_sheetColour : Cond.selects RX4 yX4_sheetColour yX4_sheetColour ∈ z_gw := z_mem 367 (by decide +kernel) (by decide +kernel)
abbrev mX3_addSheet : z_M := (yX3_addSheet, cX3_addSheet, 4, none, 0, 0, 0, 0)
theorem oX3_addSheet : z_MOk mX3_addSheet 1 := ⟨z_mem 372 (by decide +kernel) (by decide +kernel), z_mem 47 (by decide +kernel) (by decide +kernel), ⟨by decide +kernel, by decide +kernel⟩, by decide +kernel, by decide +kernel⟩
theorem eX3_addSheet : Cond.instanceMethod yX3_addSheet ∈ z_gw := z_mem 370 (by decide +kernel) (by decide +kernel)
theorem vX3_addSheet : Cond.selects RX3 yX3_addSheet yX3_addSheet ∈ z_gw := z_mem 371 (by decide +kernel) (by decide +kernel)
abbrev mX4_mirror : z_M := (yX4_mirror, cX4_mirror, 2, (some .boolean), 3, 63, 0, 0)
theorem oX4_mirror : z_MOk mX4_mirror 1 := ⟨z_mem 376 (by decide +kernel) (by decide +kernel), z_mem 43 (by decide +kernel) (by decide +kernel), ⟨by decide +kernel, by decide +kernel⟩, by decide +kernel, by decide +kernel⟩
theorem eX4_mirror : Cond.instanceMethod yX4_mirror ∈ z_gw := z_mem 374 (by decide +kernel) (by decide +kernel)
theorem vX4_mirror : Cond.selects RX4 yX4_mirror yX4_mirror ∈ z_gw := z_mem 375 (by decide +kernel) (by decide +kernel)
abbrev mX4_season : z_M := (yX4_season, cX4_season, 2, (some .boolean), 3, 63, 0, 0)
theorem oX4_season : z_MOk mX4_season 1 := ⟨z_mem 380 (by decide +kernel) (by decide +kernel), z_mem 43 (by decide +kernel) (by decide +kernel), ⟨by decide +kernel, by decide +kernel⟩, by decide +kernel, by decide +kernel⟩
theorem eX4_season : Cond.instanceMethod yX4_season ∈ z_gw := z_mem 378 (by decide +kernel) (by decide +kernel)
theorem vX4_season : Cond.selects RX4 yX4_season yX4_season ∈ z_gw := z_mem 379 (by decide +kernel) (by decide +kernel)
abbrev mX9_pane : z_M := (yX9_pane, cX9_pane, 5, (some .int), 3, 63, 0, 0)
theorem oX9_pane : z_MOk mX9_pane 3 := ⟨z_mem 384 (by decide +kernel) (by decide +kernel), z_mem 42 (by decide +kernel) (by decide +kernel), ⟨by decide +kernel, by decide +kernel⟩, by decide +kernel, by decide +kernel⟩
theorem eX9_pane : Cond.instanceMethod yX9_pane ∈ z_gw := z_mem 382 (by decide +kernel) (by decide +kernel)
theorem vX9_pane : Cond.selects RX9 yX9_pane yX9_pane ∈ z_gw := z_mem 383 (by decide +kernel) (by decide +kernel)
abbrev mX5_paneAt : z_M := (yX5_paneAt, cX5_paneAt, 4, (some .int), 0, 0, 0, 0)
theorem oX5_paneAt : z_MOk mX5_paneAt 2 := ⟨z_mem 388 (by decide +kernel) (by decide +kernel), z_mem 44 (by decide +kernel) (by decide +kernel), ⟨by decide +kernel, by decide +kernel⟩, by decide +kernel, by decide +kernel⟩
theorem eX5_paneAt : Cond.instanceMethod yX5_paneAt ∈ z_gw := z_mem 386 (by decide +kernel) (by decide +kernel)
theorem vX5_paneAt : Cond.selects RX5 yX5_paneAt yX5_paneAt ∈ z_gw := z_mem 387 (by decide +kernel) (by decide +kernel)
abbrev mX5_isBroken : z_M := (yX5_isBroken, cX5_isBroken, 2, (some .boolean), 0, 0, 0, 0)
theorem oX5_isBroken : z_MOk mX5_isBroken 1 := ⟨z_mem 392 (by decide +kernel) (by decide +kernel), z_mem 44 (by decide +kernel) (by decide +kernel), ⟨by decide +kernel, by decide +kernel⟩, by decide +kernel, by decide +kernel⟩
theorem eX5_isBroken : Cond.instanceMethod yX5_isBroken ∈ z_gw := z_mem 390 (by decide +kernel) (by decide +kernel)
theorem vX5_isBroken : Cond.selects RX5 yX5_isBroken yX5_isBroken ∈ z_gw := z_mem 391 (by decide +kernel) (by decide +kernel)
abbrev mX5_letsThrough : z_M := (yX5_letsThrough, cX5_letsThrough, 2, (some .int), 2, 42, 0, 0)
theorem oX5_letsThrough : z_MOk mX5_letsThrough 1 := ⟨z_mem 396 (by decide +kernel) (by decide +kernel), z_mem 44 (by decide +kernel) (by decide +kernel), ⟨by decide +kernel, by decide +kernel⟩, by decide +kernel, by decide +kernel⟩
theorem eX5_letsThrough : Cond.instanceMethod yX5_letsThrough ∈ z_gw := z_mem 394 (by decide +kernel) (by decide +kernel)
theorem vX5_letsThrough : Cond.selects RX5 yX5_letsThrough yX5_letsThrough ∈ z_gw := z_mem 395 (by decide +kernel) (by decide +kernel)
abbrev mX5_colourNow : z_M := (yX5_colourNow, cX5_colourNow, 2, (some .int), 1, 21, 0, 0)
theorem oX5_colourNow : z_MOk mX5_colourNow 1 := ⟨z_mem 400 (by decide +kernel) (by decide +kernel), z_mem 44 (by decide +kernel) (by decide +kernel), ⟨by decide +kernel, by decide +kernel⟩, by decide +kernel, by decide +kernel⟩
theorem eX5_colourNow : Cond.instanceMethod yX5_colourNow ∈ z_gw := z_mem 398 (by decide +kernel) (by decide +kernel)
theorem vX5_colourNow : Cond.selects RX5 yX5_colourNow yX5_colourNow ∈ z_gw := z_mem 399 (by decide +kernel) (by decide +kernel)
abbrev mX9_sheet : z_M := (yX9_sheet, cX9_sheet, 3, (some .int), 1, 22, 0, 0)
theorem oX9_sheet : z_MOk mX9_sheet 2 := ⟨z_mem 405 (by decide +kernel) (by decide +kernel), z_mem 42 (by decide +kernel) (by decide +kernel), ⟨by decide +kernel, by decide +kernel⟩, by decide +kernel, by decide +kernel⟩
theorem eX9_sheet : Cond.instanceMethod yX9_sheet ∈ z_gw := z_mem 403 (by decide +kernel) (by decide +kernel)
theorem vX9_sheet : Cond.selects RX9 yX9_sheet yX9_sheet ∈ z_gw := z_mem 404 (by decide +kernel) (by decide +kernel)
abbrev mX9_isSheet : z_M := (yX9_isSheet, cX9_isSheet, 2, (some .boolean), 0, 0, 0, 0)
theorem oX9_isSheet : z_MOk mX9_isSheet 1 := ⟨z_mem 409 (by decide +kernel) (by decide +kernel), z_mem 42 (by decide +kernel) (by decide +kernel), ⟨by decide +kernel, by decide +kernel⟩, by decide +kernel, by decide +kernel⟩
theorem eX9_isSheet : Cond.instanceMethod yX9_isSheet ∈ z_gw := z_mem 408 (by decide +kernel) (by decide +kernel)
theorem vX9_isSheet : Cond.selects RX9 yX9_isSheet yX9_isSheet ∈ z_gw := z_mem 0 (by decide +kernel) (by decide +kernel)
abbrev mX5_paneBehind : z_M := (yX5_paneBehind, cX5_paneBehind, 3, (some .int), 0, 0, 0, 0)
theorem oX5_paneBehind : z_MOk mX5_paneBehind 1 := ⟨z_mem 413 (by decide +kernel) (by decide +kernel), z_mem 44 (by decide +kernel) (by decide +kernel), ⟨by decide +kernel, by decide +kernel⟩, by decide +kernel, by decide +kernel⟩
theorem eX5_paneBehind : Cond.instanceMethod yX5_paneBehind ∈ z_gw := z_mem 411 (by decide +kernel) (by decide +kernel)
theorem vX5_paneBehind : Cond.selects RX5 yX5_paneBehind yX5_paneBehind ∈ z_gw := z_mem 412 (by decide +kernel) (by decide +kernel)
abbrev mX9_lays : z_M := (yX9_lays, cX9_lays, 5, (some .int), 3, 81, 0, 0)
theorem oX9_lays : z_MOk mX9_lays 3 := ⟨z_mem 417 (by decide +kernel) (by decide +kernel), z_mem 42 (by decide +kernel) (by decide +kernel), ⟨by decide +kernel, by decide +kernel⟩, by decide +kernel, by decide +kernel⟩
theorem eX9_lays : Cond.instanceMethod yX9_lays ∈ z_gw := z_mem 415 (by decide +kernel) (by decide +kernel)
theorem vX9_lays : Cond.selects RX9 yX9_lays yX9_lays ∈ z_gw := z_mem 416 (by decide +kernel) (by decide +kernel)
abbrev mX5_roomBefore : z_M := (yX5_roomBefore, cX5_roomBefore, 2, (some .int), 1, 21, 0, 0)
theorem oX5_roomBefore : z_MOk mX5_roomBefore 1 := ⟨z_mem 421 (by decide +kernel) (by decide +kernel), z_mem 44 (by decide +kernel) (by decide +kernel), ⟨by decide +kernel, by decide +kernel⟩, by decide +kernel, by decide +kernel⟩
theorem eX5_roomBefore : Cond.instanceMethod yX5_roomBefore ∈ z_gw := z_mem 419 (by decide +kernel) (by decide +kernel)
theorem vX5_roomBefore : Cond.selects RX5 yX5_roomBefore yX5_roomBefore ∈ z_gw := z_mem 420 (by decide +kernel) (by decide +kernel)
abbrev mJ6_bitCount_0f7a4 : z_M := (yJ6_bitCount_0f7a4, cJ6_bitCount_0f7a4, 1, (some .int), 0, 0, 0, 0)
theorem oJ6_bitCount_0f7a4 : z_MOk mJ6_bitCount_0f7a4 1 := ⟨z_mem 424 (by decide +kernel) (by decide +kernel), z_mem 53 (by decide +kernel) (by decide +kernel), ⟨by decide +kernel, by decide +kernel⟩, by decide +kernel, by decide +kernel⟩
theorem sJ6_bitCount_0f7a4 : Cond.static yJ6_bitCount_0f7a4 ∈ z_gw := z_mem 423 (by decide +kernel) (by decide +kernel)
abbrev mX6_advance : z_M := (yX6_advance, cX6_advance, 1, (some (.object RX2)), 2, 61, 0, 0)
theorem oX6_advance : z_MOk mX6_advance 0 := ⟨z_mem 431 (by decide +kernel) (by decide +kernel), z_mem 45 (by decide +kernel) (by decide +kernel), ⟨by decide +kernel, by decide +kernel⟩, by decide +kernel, by decide +kernel⟩
theorem eX6_advance : Cond.instanceMethod yX6_advance ∈ z_gw := z_mem 429 (by decide +kernel) (by decide +kernel)
theorem vX6_advance : Cond.selects RX6 yX6_advance yX6_advance ∈ z_gw := z_mem 430 (by decide +kernel) (by decide +kernel)
abbrev mX6_loseOldest : z_M := (yX6_loseOldest, cX6_loseOldest, 3, none, 0, 0, 0, 0)
theorem oX6_loseOldest : z_MOk mX6_loseOldest 0 := ⟨z_mem 435 (by decide +kernel) (by decide +kernel), z_mem 45 (by decide +kernel) (by decide +kernel), ⟨by decide +kernel, by decide +kernel⟩, by decide +kernel, by decide +kernel⟩
theorem eX6_loseOldest : Cond.instanceMethod yX6_loseOldest ∈ z_gw := z_mem 433 (by decide +kernel) (by decide +kernel)
theorem vX6_loseOldest : Cond.selects RX6 yX6_loseOldest yX6_loseOldest ∈ z_gw := z_mem 434 (by decide +kernel) (by decide +kernel)
abbrev mX2_become : z_M := (yX2_become, cX2_become, 2, none, 1, 40, 0, 0)
theorem oX2_become : z_MOk mX2_become 1 := ⟨z_mem 439 (by decide +kernel) (by decide +kernel), z_mem 46 (by decide +kernel) (by decide +kernel), ⟨by decide +kernel, by decide +kernel⟩, by decide +kernel, by decide +kernel⟩
theorem eX2_become : Cond.instanceMethod yX2_become ∈ z_gw := z_mem 437 (by decide +kernel) (by decide +kernel)
theorem vX2_become : Cond.selects RX2 yX2_become yX2_become ∈ z_gw := z_mem 438 (by decide +kernel) (by decide +kernel)
abbrev mX9_takes : z_M := (yX9_takes, cX9_takes, 3, (some .int), 3, 81, 0, 0)
theorem oX9_takes : z_MOk mX9_takes 1 := ⟨z_mem 446 (by decide +kernel) (by decide +kernel), z_mem 42 (by decide +kernel) (by decide +kernel), ⟨by decide +kernel, by decide +kernel⟩, by decide +kernel, by decide +kernel⟩
theorem eX9_takes : Cond.instanceMethod yX9_takes ∈ z_gw := z_mem 444 (by decide +kernel) (by decide +kernel)
theorem vX9_takes : Cond.selects RX9 yX9_takes yX9_takes ∈ z_gw := z_mem 445 (by decide +kernel) (by decide +kernel)
abbrev mX9_breaks : z_M := (yX9_breaks, cX9_breaks, 6, (some .int), 3, 81, 0, 0)
theorem oX9_breaks : z_MOk mX9_breaks 2 := ⟨z_mem 450 (by decide +kernel) (by decide +kernel), z_mem 42 (by decide +kernel) (by decide +kernel), ⟨by decide +kernel, by decide +kernel⟩, by decide +kernel, by decide +kernel⟩
theorem eX9_breaks : Cond.instanceMethod yX9_breaks ∈ z_gw := z_mem 448 (by decide +kernel) (by decide +kernel)
theorem vX9_breaks : Cond.selects RX9 yX9_breaks yX9_breaks ∈ z_gw := z_mem 449 (by decide +kernel) (by decide +kernel)
abbrev mX9_mends : z_M := (yX9_mends, cX9_mends, 4, (some .int), 3, 81, 0, 0)
theorem oX9_mends : z_MOk mX9_mends 2 := ⟨z_mem 455 (by decide +kernel) (by decide +kernel), z_mem 42 (by decide +kernel) (by decide +kernel), ⟨by decide +kernel, by decide +kernel⟩, by decide +kernel, by decide +kernel⟩
theorem eX9_mends : Cond.instanceMethod yX9_mends ∈ z_gw := z_mem 453 (by decide +kernel) (by decide +kernel)
theorem vX9_mends : Cond.selects RX9 yX9_mends yX9_mends ∈ z_gw := z_mem 454 (by decide +kernel) (by decide +kernel)
abbrev mX9_moves : z_M := (yX9_moves, cX9_moves, 4, (some .int), 3, 81, 0, 0)
theorem oX9_moves : z_MOk mX9_moves 2 := ⟨z_mem 459 (by decide +kernel) (by decide +kernel), z_mem 42 (by decide +kernel) (by decide +kernel), ⟨by decide +kernel, by decide +kernel⟩, by decide +kernel, by decide +kernel⟩
theorem eX9_moves : Cond.instanceMethod yX9_moves ∈ z_gw := z_mem 457 (by decide +kernel) (by decide +kernel)
theorem vX9_moves : Cond.selects RX9 yX9_moves yX9_moves ∈ z_gw := z_mem 458 (by decide +kernel) (by decide +kernel)
abbrev mX5_lostAtFirstHour : z_M := (yX5_lostAtFirstHour, cX5_lostAtFirstHour, 1, (some .int), 1, 21, 0, 0)
theorem oX5_lostAtFirstHour : z_MOk mX5_lostAtFirstHour 0 := ⟨z_mem 463 (by decide +kernel) (by decide +kernel), z_mem 44 (by decide +kernel) (by decide +kernel), ⟨by decide +kernel, by decide +kernel⟩, by decide +kernel, by decide +kernel⟩
theorem eX5_lostAtFirstHour : Cond.instanceMethod yX5_lostAtFirstHour ∈ z_gw := z_mem 461 (by decide +kernel) (by decide +kernel)
theorem vX5_lostAtFirstHour : Cond.selects RX5 yX5_lostAtFirstHour yX5_lostAtFirstHour ∈ z_gw := z_mem 462 (by decide +kernel) (by decide +kernel)
abbrev mJ9_max_7cf53 : z_M := (yJ9_max_7cf53, cJ9_max_7cf53, 2, (some .int), 0, 0, 0, 0)
theorem oJ9_max_7cf53 : Cond.code yJ9_max_7cf53 cJ9_max_7cf53 2 (some .int) ∈ z_gw := z_mem 466 (by decide +kernel) (by decide +kernel)
theorem sJ9_max_7cf53 : Cond.static yJ9_max_7cf53 ∈ z_gw := z_mem 465 (by decide +kernel) (by decide +kernel)
abbrev mX9_undo : z_M := (yX9_undo, cX9_undo, 1, (some .int), 1, 20, 0, 0)
theorem oX9_undo : z_MOk mX9_undo 0 := ⟨z_mem 470 (by decide +kernel) (by decide +kernel), z_mem 42 (by decide +kernel) (by decide +kernel), ⟨by decide +kernel, by decide +kernel⟩, by decide +kernel, by decide +kernel⟩
theorem eX9_undo : Cond.instanceMethod yX9_undo ∈ z_gw := z_mem 468 (by decide +kernel) (by decide +kernel)
theorem vX9_undo : Cond.selects RX9 yX9_undo yX9_undo ∈ z_gw := z_mem 469 (by decide +kernel) (by decide +kernel)
abbrev mX6_retreat : z_M := (yX6_retreat, cX6_retreat, 1, none, 0, 0, 0, 0)
theorem oX6_retreat : z_MOk mX6_retreat 0 := ⟨z_mem 474 (by decide +kernel) (by decide +kernel), z_mem 45 (by decide +kernel) (by decide +kernel), ⟨by decide +kernel, by decide +kernel⟩, by decide +kernel, by decide +kernel⟩
theorem eX6_retreat : Cond.instanceMethod yX6_retreat ∈ z_gw := z_mem 472 (by decide +kernel) (by decide +kernel)
theorem vX6_retreat : Cond.selects RX6 yX6_retreat yX6_retreat ∈ z_gw := z_mem 473 (by decide +kernel) (by decide +kernel)
abbrev mX9_now : z_M := (yX9_now, cX9_now, 2, (some .int), 5, 113, 0, 0)
theorem oX9_now : z_MOk mX9_now 1 := ⟨z_mem 478 (by decide +kernel) (by decide +kernel), z_mem 42 (by decide +kernel) (by decide +kernel), ⟨by decide +kernel, by decide +kernel⟩, by decide +kernel, by decide +kernel⟩
theorem eX9_now : Cond.instanceMethod yX9_now ∈ z_gw := z_mem 476 (by decide +kernel) (by decide +kernel)
theorem vX9_now : Cond.selects RX9 yX9_now yX9_now ∈ z_gw := z_mem 477 (by decide +kernel) (by decide +kernel)
abbrev mX5_box : z_M := (yX5_box, cX5_box, 3, (some .int), 0, 0, 0, 0)
theorem oX5_box : z_MOk mX5_box 0 := ⟨z_mem 482 (by decide +kernel) (by decide +kernel), z_mem 44 (by decide +kernel) (by decide +kernel), ⟨by decide +kernel, by decide +kernel⟩, by decide +kernel, by decide +kernel⟩
theorem eX5_box : Cond.instanceMethod yX5_box ∈ z_gw := z_mem 480 (by decide +kernel) (by decide +kernel)
theorem vX5_box : Cond.selects RX5 yX5_box yX5_box ∈ z_gw := z_mem 481 (by decide +kernel) (by decide +kernel)
abbrev mX0_leads : z_M := (yX0_leads, cX0_leads, 3, (some .int), 4, 88, 0, 0)
theorem oX0_leads : z_MOk mX0_leads 1 := ⟨z_mem 485 (by decide +kernel) (by decide +kernel), z_mem 56 (by decide +kernel) (by decide +kernel), ⟨by decide +kernel, by decide +kernel⟩, by decide +kernel, by decide +kernel⟩
theorem sX0_leads : Cond.static yX0_leads ∈ z_gw := z_mem 484 (by decide +kernel) (by decide +kernel)
abbrev mX5_hasPane : z_M := (yX5_hasPane, cX5_hasPane, 2, (some .boolean), 1, 23, 0, 0)
theorem oX5_hasPane : z_MOk mX5_hasPane 1 := ⟨z_mem 489 (by decide +kernel) (by decide +kernel), z_mem 44 (by decide +kernel) (by decide +kernel), ⟨by decide +kernel, by decide +kernel⟩, by decide +kernel, by decide +kernel⟩
theorem eX5_hasPane : Cond.instanceMethod yX5_hasPane ∈ z_gw := z_mem 487 (by decide +kernel) (by decide +kernel)
theorem vX5_hasPane : Cond.selects RX5 yX5_hasPane yX5_hasPane ∈ z_gw := z_mem 488 (by decide +kernel) (by decide +kernel)
abbrev mX0_unlikeBeside : z_M := (yX0_unlikeBeside, cX0_unlikeBeside, 5, (some .int), 3, 64, 0, 0)
theorem oX0_unlikeBeside : z_MOk mX0_unlikeBeside 3 := ⟨z_mem 494 (by decide +kernel) (by decide +kernel), z_mem 56 (by decide +kernel) (by decide +kernel), ⟨by decide +kernel, by decide +kernel⟩, by decide +kernel, by decide +kernel⟩
theorem sX0_unlikeBeside : Cond.static yX0_unlikeBeside ∈ z_gw := z_mem 493 (by decide +kernel) (by decide +kernel)
abbrev mX0_unlike : z_M := (yX0_unlike, cX0_unlike, 3, (some .int), 2, 42, 0, 0)
theorem oX0_unlike : z_MOk mX0_unlike 3 := ⟨z_mem 498 (by decide +kernel) (by decide +kernel), z_mem 56 (by decide +kernel) (by decide +kernel), ⟨by decide +kernel, by decide +kernel⟩, by decide +kernel, by decide +kernel⟩
theorem sX0_unlike : Cond.static yX0_unlike ∈ z_gw := z_mem 497 (by decide +kernel) (by decide +kernel)
abbrev mX0_parts : z_M := (yX0_parts, cX0_parts, 3, (some .int), 4, 91, 0, 0)
theorem oX0_parts : z_MOk mX0_parts 1 := ⟨z_mem 501 (by decide +kernel) (by decide +kernel), z_mem 56 (by decide +kernel) (by decide +kernel), ⟨by decide +kernel, by decide +kernel⟩, by decide +kernel, by decide +kernel⟩
theorem sX0_parts : Cond.static yX0_parts ∈ z_gw := z_mem 500 (by decide +kernel) (by decide +kernel)
abbrev mX0_partOf : z_M := (yX0_partOf, cX0_partOf, 5, (some .int), 3, 67, 0, 0)
theorem oX0_partOf : z_MOk mX0_partOf 2 := ⟨z_mem 504 (by decide +kernel) (by decide +kernel), z_mem 56 (by decide +kernel) (by decide +kernel), ⟨by decide +kernel, by decide +kernel⟩, by decide +kernel, by decide +kernel⟩
theorem sX0_partOf : Cond.static yX0_partOf ∈ z_gw := z_mem 503 (by decide +kernel) (by decide +kernel)
abbrev mX0_panesOf : z_M := (yX0_panesOf, cX0_panesOf, 4, (some .int), 2, 44, 0, 0)
theorem oX0_panesOf : z_MOk mX0_panesOf 2 := ⟨z_mem 507 (by decide +kernel) (by decide +kernel), z_mem 56 (by decide +kernel) (by decide +kernel), ⟨by decide +kernel, by decide +kernel⟩, by decide +kernel, by decide +kernel⟩
theorem sX0_panesOf : Cond.static yX0_panesOf ∈ z_gw := z_mem 506 (by decide +kernel) (by decide +kernel)
abbrev mX0_beside : z_M := (yX0_beside, cX0_beside, 3, (some .int), 0, 0, 0, 0)
theorem oX0_beside : z_MOk mX0_beside 1 := ⟨z_mem 510 (by decide +kernel) (by decide +kernel), z_mem 56 (by decide +kernel) (by decide +kernel), ⟨by decide +kernel, by decide +kernel⟩, by decide +kernel, by decide +kernel⟩
theorem sX0_beside : Cond.static yX0_beside ∈ z_gw := z_mem 509 (by decide +kernel) (by decide +kernel)
abbrev mX0_greatestPart : z_M := (yX0_greatestPart, cX0_greatestPart, 3, (some .int), 4, 91, 0, 0)
theorem oX0_greatestPart : z_MOk mX0_greatestPart 1 := ⟨z_mem 515 (by decide +kernel) (by decide +kernel), z_mem 56 (by decide +kernel) (by decide +kernel), ⟨by decide +kernel, by decide +kernel⟩, by decide +kernel, by decide +kernel⟩
theorem sX0_greatestPart : Cond.static yX0_greatestPart ∈ z_gw := z_mem 514 (by decide +kernel) (by decide +kernel)
abbrev mX9_light : z_M := (yX9_light, cX9_light, 4, (some .int), 4, 85, 0, 0)
theorem oX9_light : z_MOk mX9_light 3 := ⟨z_mem 521 (by decide +kernel) (by decide +kernel), z_mem 42 (by decide +kernel) (by decide +kernel), ⟨by decide +kernel, by decide +kernel⟩, by decide +kernel, by decide +kernel⟩
theorem eX9_light : Cond.instanceMethod yX9_light ∈ z_gw := z_mem 519 (by decide +kernel) (by decide +kernel)
theorem vX9_light : Cond.selects RX9 yX9_light yX9_light ∈ z_gw := z_mem 520 (by decide +kernel) (by decide +kernel)
abbrev mX9_isTile : z_M := (yX9_isTile, cX9_isTile, 2, (some .boolean), 0, 0, 0, 0)
theorem oX9_isTile : z_MOk mX9_isTile 2 := ⟨z_mem 524 (by decide +kernel) (by decide +kernel), z_mem 42 (by decide +kernel) (by decide +kernel), ⟨by decide +kernel, by decide +kernel⟩, by decide +kernel, by decide +kernel⟩
theorem sX9_isTile : Cond.static yX9_isTile ∈ z_gw := z_mem 523 (by decide +kernel) (by decide +kernel)
abbrev mX9_isHour : z_M := (yX9_isHour, cX9_isHour, 1, (some .boolean), 0, 0, 0, 0)
theorem oX9_isHour : z_MOk mX9_isHour 1 := ⟨z_mem 527 (by decide +kernel) (by decide +kernel), z_mem 42 (by decide +kernel) (by decide +kernel), ⟨by decide +kernel, by decide +kernel⟩, by decide +kernel, by decide +kernel⟩
theorem sX9_isHour : Cond.static yX9_isHour ∈ z_gw := z_mem 526 (by decide +kernel) (by decide +kernel)
abbrev mX9_numberOf : z_M := (yX9_numberOf, cX9_numberOf, 2, (some .int), 0, 0, 0, 0)
theorem oX9_numberOf : z_MOk mX9_numberOf 2 := ⟨z_mem 530 (by decide +kernel) (by decide +kernel), z_mem 42 (by decide +kernel) (by decide +kernel), ⟨by decide +kernel, by decide +kernel⟩, by decide +kernel, by decide +kernel⟩
theorem sX9_numberOf : Cond.static yX9_numberOf ∈ z_gw := z_mem 529 (by decide +kernel) (by decide +kernel)
abbrev mX5_lightOf : z_M := (yX5_lightOf, cX5_lightOf, 3, (some .int), 3, 63, 0, 0)
theorem oX5_lightOf : z_MOk mX5_lightOf 2 := ⟨z_mem 534 (by decide +kernel) (by decide +kernel), z_mem 44 (by decide +kernel) (by decide +kernel), ⟨by decide +kernel, by decide +kernel⟩, by decide +kernel, by decide +kernel⟩
theorem eX5_lightOf : Cond.instanceMethod yX5_lightOf ∈ z_gw := z_mem 532 (by decide +kernel) (by decide +kernel)
theorem vX5_lightOf : Cond.selects RX5 yX5_lightOf yX5_lightOf ∈ z_gw := z_mem 533 (by decide +kernel) (by decide +kernel)
abbrev mX5_paneByItself : z_M := (yX5_paneByItself, cX5_paneByItself, 4, (some .int), 1, 23, 0, 0)
theorem oX5_paneByItself : z_MOk mX5_paneByItself 2 := ⟨z_mem 538 (by decide +kernel) (by decide +kernel), z_mem 44 (by decide +kernel) (by decide +kernel), ⟨by decide +kernel, by decide +kernel⟩, by decide +kernel, by decide +kernel⟩
theorem eX5_paneByItself : Cond.instanceMethod yX5_paneByItself ∈ z_gw := z_mem 536 (by decide +kernel) (by decide +kernel)
theorem vX5_paneByItself : Cond.selects RX5 yX5_paneByItself yX5_paneByItself ∈ z_gw := z_mem 537 (by decide +kernel) (by decide +kernel)
abbrev mX5_paneByMirror : z_M := (yX5_paneByMirror, cX5_paneByMirror, 5, (some .int), 1, 23, 0, 0)
theorem oX5_paneByMirror : z_MOk mX5_paneByMirror 2 := ⟨z_mem 543 (by decide +kernel) (by decide +kernel), z_mem 44 (by decide +kernel) (by decide +kernel), ⟨by decide +kernel, by decide +kernel⟩, by decide +kernel, by decide +kernel⟩
theorem eX5_paneByMirror : Cond.instanceMethod yX5_paneByMirror ∈ z_gw := z_mem 541 (by decide +kernel) (by decide +kernel)
theorem vX5_paneByMirror : Cond.selects RX5 yX5_paneByMirror yX5_paneByMirror ∈ z_gw := z_mem 542 (by decide +kernel) (by decide +kernel)
abbrev mX9_lit : z_M := (yX9_lit, cX9_lit, 7, (some .int), 4, 85, 0, 0)
theorem oX9_lit : z_MOk mX9_lit 3 := ⟨z_mem 547 (by decide +kernel) (by decide +kernel), z_mem 42 (by decide +kernel) (by decide +kernel), ⟨by decide +kernel, by decide +kernel⟩, by decide +kernel, by decide +kernel⟩
theorem eX9_lit : Cond.instanceMethod yX9_lit ∈ z_gw := z_mem 545 (by decide +kernel) (by decide +kernel)
theorem vX9_lit : Cond.selects RX9 yX9_lit yX9_lit ∈ z_gw := z_mem 546 (by decide +kernel) (by decide +kernel)
abbrev mX9_isColour : z_M := (yX9_isColour, cX9_isColour, 1, (some .boolean), 0, 0, 0, 0)
theorem oX9_isColour : z_MOk mX9_isColour 1 := ⟨z_mem 550 (by decide +kernel) (by decide +kernel), z_mem 42 (by decide +kernel) (by decide +kernel), ⟨by decide +kernel, by decide +kernel⟩, by decide +kernel, by decide +kernel⟩
theorem sX9_isColour : Cond.static yX9_isColour ∈ z_gw := z_mem 549 (by decide +kernel) (by decide +kernel)
abbrev mX9_when : z_M := (yX9_when, cX9_when, 5, (some .int), 4, 85, 0, 0)
theorem oX9_when : z_MOk mX9_when 3 := ⟨z_mem 554 (by decide +kernel) (by decide +kernel), z_mem 42 (by decide +kernel) (by decide +kernel), ⟨by decide +kernel, by decide +kernel⟩, by decide +kernel, by decide +kernel⟩
theorem eX9_when : Cond.instanceMethod yX9_when ∈ z_gw := z_mem 552 (by decide +kernel) (by decide +kernel)
theorem vX9_when : Cond.selects RX9 yX9_when yX9_when ∈ z_gw := z_mem 553 (by decide +kernel) (by decide +kernel)
abbrev mX9_mix : z_M := (yX9_mix, cX9_mix, 6, (some .int), 5, 124, 0, 0)
theorem oX9_mix : z_MOk mX9_mix 5 := ⟨z_mem 558 (by decide +kernel) (by decide +kernel), z_mem 42 (by decide +kernel) (by decide +kernel), ⟨by decide +kernel, by decide +kernel⟩, by decide +kernel, by decide +kernel⟩
theorem eX9_mix : Cond.instanceMethod yX9_mix ∈ z_gw := z_mem 556 (by decide +kernel) (by decide +kernel)
theorem vX9_mix : Cond.selects RX9 yX9_mix yX9_mix ∈ z_gw := z_mem 557 (by decide +kernel) (by decide +kernel)
abbrev mX1_seek : z_M := (yX1_seek, cX1_seek, 11, none, 4, 94, 0, 0)
theorem oX1_seek : z_MOk mX1_seek 4 := ⟨z_mem 562 (by decide +kernel) (by decide +kernel), z_mem 49 (by decide +kernel) (by decide +kernel), ⟨by decide +kernel, by decide +kernel⟩, by decide +kernel, by decide +kernel⟩
theorem eX1_seek : Cond.instanceMethod yX1_seek ∈ z_gw := z_mem 560 (by decide +kernel) (by decide +kernel)
theorem vX1_seek : Cond.selects RX1 yX1_seek yX1_seek ∈ z_gw := z_mem 561 (by decide +kernel) (by decide +kernel)
abbrev mX1_seekLatter : z_M := (yX1_seekLatter, cX1_seekLatter, 12, none, 3, 63, 0, 0)
theorem oX1_seekLatter : z_MOk mX1_seekLatter 5 := ⟨z_mem 572 (by decide +kernel) (by decide +kernel), z_mem 49 (by decide +kernel) (by decide +kernel), ⟨by decide +kernel, by decide +kernel⟩, by decide +kernel, by decide +kernel⟩
theorem eX1_seekLatter : Cond.instanceMethod yX1_seekLatter ∈ z_gw := z_mem 570 (by decide +kernel) (by decide +kernel)
theorem vX1_seekLatter : Cond.selects RX1 yX1_seekLatter yX1_seekLatter ∈ z_gw := z_mem 571 (by decide +kernel) (by decide +kernel)
abbrev mX1_offer : z_M := (yX1_offer, cX1_offer, 4, none, 1, 20, 0, 0)
theorem oX1_offer : z_MOk mX1_offer 2 := ⟨z_mem 576 (by decide +kernel) (by decide +kernel), z_mem 49 (by decide +kernel) (by decide +kernel), ⟨by decide +kernel, by decide +kernel⟩, by decide +kernel, by decide +kernel⟩
theorem eX1_offer : Cond.instanceMethod yX1_offer ∈ z_gw := z_mem 574 (by decide +kernel) (by decide +kernel)
theorem vX1_offer : Cond.selects RX1 yX1_offer yX1_offer ∈ z_gw := z_mem 575 (by decide +kernel) (by decide +kernel)
abbrev mX9_child : z_M := (yX9_child, cX9_child, 7, (some .int), 5, 112, 0, 0)
theorem oX9_child : z_MOk mX9_child 5 := ⟨z_mem 580 (by decide +kernel) (by decide +kernel), z_mem 42 (by decide +kernel) (by decide +kernel), ⟨by decide +kernel, by decide +kernel⟩, by decide +kernel, by decide +kernel⟩
theorem eX9_child : Cond.instanceMethod yX9_child ∈ z_gw := z_mem 578 (by decide +kernel) (by decide +kernel)
theorem vX9_child : Cond.selects RX9 yX9_child yX9_child ∈ z_gw := z_mem 579 (by decide +kernel) (by decide +kernel)
abbrev mX7_hoursFrom : z_M := (yX7_hoursFrom, cX7_hoursFrom, 8, (some .int), 4, 85, 0, 0)
theorem oX7_hoursFrom : z_MOk mX7_hoursFrom 4 := ⟨z_mem 584 (by decide +kernel) (by decide +kernel), z_mem 50 (by decide +kernel) (by decide +kernel), ⟨by decide +kernel, by decide +kernel⟩, by decide +kernel, by decide +kernel⟩
theorem eX7_hoursFrom : Cond.instanceMethod yX7_hoursFrom ∈ z_gw := z_mem 582 (by decide +kernel) (by decide +kernel)
theorem vX7_hoursFrom : Cond.selects RX7 yX7_hoursFrom yX7_hoursFrom ∈ z_gw := z_mem 583 (by decide +kernel) (by decide +kernel)
abbrev mX7_onward : z_M := (yX7_onward, cX7_onward, 5, (some .int), 2, 46, 0, 0)
theorem oX7_onward : z_MOk mX7_onward 2 := ⟨z_mem 589 (by decide +kernel) (by decide +kernel), z_mem 50 (by decide +kernel) (by decide +kernel), ⟨by decide +kernel, by decide +kernel⟩, by decide +kernel, by decide +kernel⟩
theorem eX7_onward : Cond.instanceMethod yX7_onward ∈ z_gw := z_mem 587 (by decide +kernel) (by decide +kernel)
theorem vX7_onward : Cond.selects RX7 yX7_onward yX7_onward ∈ z_gw := z_mem 588 (by decide +kernel) (by decide +kernel)
abbrev mX7_better : z_M := (yX7_better, cX7_better, 6, (some .int), 1, 21, 0, 0)
theorem oX7_better : z_MOk mX7_better 3 := ⟨z_mem 593 (by decide +kernel) (by decide +kernel), z_mem 50 (by decide +kernel) (by decide +kernel), ⟨by decide +kernel, by decide +kernel⟩, by decide +kernel, by decide +kernel⟩
theorem eX7_better : Cond.instanceMethod yX7_better ∈ z_gw := z_mem 591 (by decide +kernel) (by decide +kernel)
theorem vX7_better : Cond.selects RX7 yX7_better yX7_better ∈ z_gw := z_mem 592 (by decide +kernel) (by decide +kernel)
abbrev mJ9_min_7cf53 : z_M := (yJ9_min_7cf53, cJ9_min_7cf53, 2, (some .int), 0, 0, 0, 0)
theorem oJ9_min_7cf53 : Cond.code yJ9_min_7cf53 cJ9_min_7cf53 2 (some .int) ∈ z_gw := z_mem 596 (by decide +kernel) (by decide +kernel)
theorem sJ9_min_7cf53 : Cond.static yJ9_min_7cf53 ∈ z_gw := z_mem 595 (by decide +kernel) (by decide +kernel)
abbrev mX7_tileAfter : z_M := (yX7_tileAfter, cX7_tileAfter, 6, (some .int), 3, 70, 0, 0)
theorem oX7_tileAfter : z_MOk mX7_tileAfter 3 := ⟨z_mem 600 (by decide +kernel) (by decide +kernel), z_mem 50 (by decide +kernel) (by decide +kernel), ⟨by decide +kernel, by decide +kernel⟩, by decide +kernel, by decide +kernel⟩
theorem eX7_tileAfter : Cond.instanceMethod yX7_tileAfter ∈ z_gw := z_mem 598 (by decide +kernel) (by decide +kernel)
theorem vX7_tileAfter : Cond.selects RX7 yX7_tileAfter yX7_tileAfter ∈ z_gw := z_mem 599 (by decide +kernel) (by decide +kernel)
abbrev mX9_paint : z_M := (yX9_paint, cX9_paint, 3, (some .int), 6, 136, 0, 0)
theorem oX9_paint : z_MOk mX9_paint 1 := ⟨z_mem 604 (by decide +kernel) (by decide +kernel), z_mem 42 (by decide +kernel) (by decide +kernel), ⟨by decide +kernel, by decide +kernel⟩, by decide +kernel, by decide +kernel⟩
theorem eX9_paint : Cond.instanceMethod yX9_paint ∈ z_gw := z_mem 602 (by decide +kernel) (by decide +kernel)
theorem vX9_paint : Cond.selects RX9 yX9_paint yX9_paint ∈ z_gw := z_mem 603 (by decide +kernel) (by decide +kernel)
abbrev mX0_bestPaint : z_M := (yX0_bestPaint, cX0_bestPaint, 7, (some .int), 5, 110, 0, 0)
theorem oX0_bestPaint : z_MOk mX0_bestPaint 1 := ⟨z_mem 607 (by decide +kernel) (by decide +kernel), z_mem 56 (by decide +kernel) (by decide +kernel), ⟨by decide +kernel, by decide +kernel⟩, by decide +kernel, by decide +kernel⟩
theorem sX0_bestPaint : Cond.static yX0_bestPaint ∈ z_gw := z_mem 606 (by decide +kernel) (by decide +kernel)
abbrev mX0_addedBy : z_M := (yX0_addedBy, cX0_addedBy, 3, (some .int), 4, 88, 0, 0)
theorem oX0_addedBy : z_MOk mX0_addedBy 3 := ⟨z_mem 610 (by decide +kernel) (by decide +kernel), z_mem 56 (by decide +kernel) (by decide +kernel), ⟨by decide +kernel, by decide +kernel⟩, by decide +kernel, by decide +kernel⟩
theorem sX0_addedBy : Cond.static yX0_addedBy ∈ z_gw := z_mem 609 (by decide +kernel) (by decide +kernel)
abbrev mX0_leadsPainted : z_M := (yX0_leadsPainted, cX0_leadsPainted, 3, (some .int), 5, 110, 0, 0)
theorem oX0_leadsPainted : z_MOk mX0_leadsPainted 3 := ⟨z_mem 613 (by decide +kernel) (by decide +kernel), z_mem 56 (by decide +kernel) (by decide +kernel), ⟨by decide +kernel, by decide +kernel⟩, by decide +kernel, by decide +kernel⟩
theorem sX0_leadsPainted : Cond.static yX0_leadsPainted ∈ z_gw := z_mem 612 (by decide +kernel) (by decide +kernel)
abbrev mX9_hail : z_M := (yX9_hail, cX9_hail, 8, (some .int), 5, 109, 0, 0)
theorem oX9_hail : z_MOk mX9_hail 5 := ⟨z_mem 618 (by decide +kernel) (by decide +kernel), z_mem 42 (by decide +kernel) (by decide +kernel), ⟨by decide +kernel, by decide +kernel⟩, by decide +kernel, by decide +kernel⟩
theorem eX9_hail : Cond.instanceMethod yX9_hail ∈ z_gw := z_mem 616 (by decide +kernel) (by decide +kernel)
theorem vX9_hail : Cond.selects RX9 yX9_hail yX9_hail ∈ z_gw := z_mem 617 (by decide +kernel) (by decide +kernel)
abbrev mX9_clearOfHundred : z_M := (yX9_clearOfHundred, cX9_clearOfHundred, 5, (some .int), 4, 85, 0, 0)
theorem oX9_clearOfHundred : z_MOk mX9_clearOfHundred 3 := ⟨z_mem 622 (by decide +kernel) (by decide +kernel), z_mem 42 (by decide +kernel) (by decide +kernel), ⟨by decide +kernel, by decide +kernel⟩, by decide +kernel, by decide +kernel⟩
theorem eX9_clearOfHundred : Cond.instanceMethod yX9_clearOfHundred ∈ z_gw := z_mem 621 (by decide +kernel) (by decide +kernel)
theorem vX9_clearOfHundred : Cond.selects RX9 yX9_clearOfHundred yX9_clearOfHundred ∈ z_gw := z_mem 1 (by decide +kernel) (by decide +kernel)
abbrev mX9_greatestDivisor : z_M := (yX9_greatestDivisor, cX9_greatestDivisor, 3, (some .int), 0, 0, 0, 0)
theorem oX9_greatestDivisor : z_MOk mX9_greatestDivisor 2 := ⟨z_mem 627 (by decide +kernel) (by decide +kernel), z_mem 42 (by decide +kernel) (by decide +kernel), ⟨by decide +kernel, by decide +kernel⟩, by decide +kernel, by decide +kernel⟩
theorem sX9_greatestDivisor : Cond.static yX9_greatestDivisor ∈ z_gw := z_mem 626 (by decide +kernel) (by decide +kernel)
abbrev mX9_saw : z_M := (yX9_saw, cX9_saw, 5, (some .int), 1, 22, 0, 0)
theorem oX9_saw : z_MOk mX9_saw 4 := ⟨z_mem 631 (by decide +kernel) (by decide +kernel), z_mem 42 (by decide +kernel) (by decide +kernel), ⟨by decide +kernel, by decide +kernel⟩, by decide +kernel, by decide +kernel⟩
theorem eX9_saw : Cond.instanceMethod yX9_saw ∈ z_gw := z_mem 629 (by decide +kernel) (by decide +kernel)
theorem vX9_saw : Cond.selects RX9 yX9_saw yX9_saw ∈ z_gw := z_mem 630 (by decide +kernel) (by decide +kernel)
abbrev mX8_add : z_M := (yX8_add, cX8_add, 3, (some .boolean), 0, 0, 0, 0)
theorem oX8_add : z_MOk mX8_add 2 := ⟨z_mem 635 (by decide +kernel) (by decide +kernel), z_mem 51 (by decide +kernel) (by decide +kernel), ⟨by decide +kernel, by decide +kernel⟩, by decide +kernel, by decide +kernel⟩
theorem eX8_add : Cond.instanceMethod yX8_add ∈ z_gw := z_mem 633 (by decide +kernel) (by decide +kernel)
theorem vX8_add : Cond.selects RX8 yX8_add yX8_add ∈ z_gw := z_mem 634 (by decide +kernel) (by decide +kernel)
abbrev mX9_forget : z_M := (yX9_forget, cX9_forget, 2, (some .int), 0, 0, 0, 0)
theorem oX9_forget : z_MOk mX9_forget 0 := ⟨z_mem 639 (by decide +kernel) (by decide +kernel), z_mem 42 (by decide +kernel) (by decide +kernel), ⟨by decide +kernel, by decide +kernel⟩, by decide +kernel, by decide +kernel⟩
theorem eX9_forget : Cond.instanceMethod yX9_forget ∈ z_gw := z_mem 637 (by decide +kernel) (by decide +kernel)
theorem vX9_forget : Cond.selects RX9 yX9_forget yX9_forget ∈ z_gw := z_mem 638 (by decide +kernel) (by decide +kernel)
abbrev mX9_suspects : z_M := (yX9_suspects, cX9_suspects, 1, (some .int), 6, 136, 0, 0)
theorem oX9_suspects : z_MOk mX9_suspects 0 := ⟨z_mem 643 (by decide +kernel) (by decide +kernel), z_mem 42 (by decide +kernel) (by decide +kernel), ⟨by decide +kernel, by decide +kernel⟩, by decide +kernel, by decide +kernel⟩
theorem eX9_suspects : Cond.instanceMethod yX9_suspects ∈ z_gw := z_mem 641 (by decide +kernel) (by decide +kernel)
theorem vX9_suspects : Cond.selects RX9 yX9_suspects yX9_suspects ∈ z_gw := z_mem 642 (by decide +kernel) (by decide +kernel)
abbrev mX8_suspected : z_M := (yX8_suspected, cX8_suspected, 4, (some .int), 5, 113, 0, 0)
theorem oX8_suspected : z_MOk mX8_suspected 1 := ⟨z_mem 647 (by decide +kernel) (by decide +kernel), z_mem 51 (by decide +kernel) (by decide +kernel), ⟨by decide +kernel, by decide +kernel⟩, by decide +kernel, by decide +kernel⟩
theorem eX8_suspected : Cond.instanceMethod yX8_suspected ∈ z_gw := z_mem 645 (by decide +kernel) (by decide +kernel)
theorem vX8_suspected : Cond.selects RX8 yX8_suspected yX8_suspected ∈ z_gw := z_mem 646 (by decide +kernel) (by decide +kernel)
abbrev mX8_agrees : z_M := (yX8_agrees, cX8_agrees, 5, (some .boolean), 4, 89, 0, 0)
theorem oX8_agrees : z_MOk mX8_agrees 3 := ⟨z_mem 651 (by decide +kernel) (by decide +kernel), z_mem 51 (by decide +kernel) (by decide +kernel), ⟨by decide +kernel, by decide +kernel⟩, by decide +kernel, by decide +kernel⟩
theorem eX8_agrees : Cond.instanceMethod yX8_agrees ∈ z_gw := z_mem 649 (by decide +kernel) (by decide +kernel)
theorem vX8_agrees : Cond.selects RX8 yX8_agrees yX8_agrees ∈ z_gw := z_mem 650 (by decide +kernel) (by decide +kernel)
abbrev mX5_lightIf : z_M := (yX5_lightIf, cX5_lightIf, 7, (some .int), 3, 63, 0, 0)
theorem oX5_lightIf : z_MOk mX5_lightIf 4 := ⟨z_mem 655 (by decide +kernel) (by decide +kernel), z_mem 44 (by decide +kernel) (by decide +kernel), ⟨by decide +kernel, by decide +kernel⟩, by decide +kernel, by decide +kernel⟩
theorem eX5_lightIf : Cond.instanceMethod yX5_lightIf ∈ z_gw := z_mem 653 (by decide +kernel) (by decide +kernel)
theorem vX5_lightIf : Cond.selects RX5 yX5_lightIf yX5_lightIf ∈ z_gw := z_mem 654 (by decide +kernel) (by decide +kernel)
abbrev mX9_glasses : z_M := (yX9_glasses, cX9_glasses, 4, (some .int), 6, 138, 0, 0)
theorem oX9_glasses : z_MOk mX9_glasses 2 := ⟨z_mem 662 (by decide +kernel) (by decide +kernel), z_mem 42 (by decide +kernel) (by decide +kernel), ⟨by decide +kernel, by decide +kernel⟩, by decide +kernel, by decide +kernel⟩
theorem eX9_glasses : Cond.instanceMethod yX9_glasses ∈ z_gw := z_mem 660 (by decide +kernel) (by decide +kernel)
theorem vX9_glasses : Cond.selects RX9 yX9_glasses yX9_glasses ∈ z_gw := z_mem 661 (by decide +kernel) (by decide +kernel)
abbrev mX8_glassesOf : z_M := (yX8_glassesOf, cX8_glassesOf, 6, (some .int), 5, 113, 0, 0)
theorem oX8_glassesOf : z_MOk mX8_glassesOf 2 := ⟨z_mem 666 (by decide +kernel) (by decide +kernel), z_mem 51 (by decide +kernel) (by decide +kernel), ⟨by decide +kernel, by decide +kernel⟩, by decide +kernel, by decide +kernel⟩
theorem eX8_glassesOf : Cond.instanceMethod yX8_glassesOf ∈ z_gw := z_mem 664 (by decide +kernel) (by decide +kernel)
theorem vX8_glassesOf : Cond.selects RX8 yX8_glassesOf yX8_glassesOf ∈ z_gw := z_mem 665 (by decide +kernel) (by decide +kernel)
abbrev mX9_look : z_M := (yX9_look, cX9_look, 1, (some .int), 6, 137, 0, 0)
theorem oX9_look : z_MOk mX9_look 0 := ⟨z_mem 670 (by decide +kernel) (by decide +kernel), z_mem 42 (by decide +kernel) (by decide +kernel), ⟨by decide +kernel, by decide +kernel⟩, by decide +kernel, by decide +kernel⟩
theorem eX9_look : Cond.instanceMethod yX9_look ∈ z_gw := z_mem 668 (by decide +kernel) (by decide +kernel)
theorem vX9_look : Cond.selects RX9 yX9_look yX9_look ∈ z_gw := z_mem 669 (by decide +kernel) (by decide +kernel)
abbrev mX8_bestPlace : z_M := (yX8_bestPlace, cX8_bestPlace, 7, (some .int), 5, 111, 0, 0)
theorem oX8_bestPlace : z_MOk mX8_bestPlace 2 := ⟨z_mem 674 (by decide +kernel) (by decide +kernel), z_mem 51 (by decide +kernel) (by decide +kernel), ⟨by decide +kernel, by decide +kernel⟩, by decide +kernel, by decide +kernel⟩
theorem eX8_bestPlace : Cond.instanceMethod yX8_bestPlace ∈ z_gw := z_mem 672 (by decide +kernel) (by decide +kernel)
theorem vX8_bestPlace : Cond.selects RX8 yX8_bestPlace yX8_bestPlace ∈ z_gw := z_mem 673 (by decide +kernel) (by decide +kernel)
abbrev mX8_mostAlike : z_M := (yX8_mostAlike, cX8_mostAlike, 7, (some .int), 4, 85, 0, 0)
theorem oX8_mostAlike : z_MOk mX8_mostAlike 4 := ⟨z_mem 678 (by decide +kernel) (by decide +kernel), z_mem 51 (by decide +kernel) (by decide +kernel), ⟨by decide +kernel, by decide +kernel⟩, by decide +kernel, by decide +kernel⟩
theorem eX8_mostAlike : Cond.instanceMethod yX8_mostAlike ∈ z_gw := z_mem 676 (by decide +kernel) (by decide +kernel)
theorem vX8_mostAlike : Cond.selects RX8 yX8_mostAlike yX8_mostAlike ∈ z_gw := z_mem 677 (by decide +kernel) (by decide +kernel)
abbrev mX8_bitOf : z_M := (yX8_bitOf, cX8_bitOf, 3, (some .int), 0, 0, 0, 0)
theorem oX8_bitOf : z_MOk mX8_bitOf 2 := ⟨z_mem 685 (by decide +kernel) (by decide +kernel), z_mem 51 (by decide +kernel) (by decide +kernel), ⟨by decide +kernel, by decide +kernel⟩, by decide +kernel, by decide +kernel⟩
theorem eX8_bitOf : Cond.instanceMethod yX8_bitOf ∈ z_gw := z_mem 683 (by decide +kernel) (by decide +kernel)
theorem vX8_bitOf : Cond.selects RX8 yX8_bitOf yX8_bitOf ∈ z_gw := z_mem 684 (by decide +kernel) (by decide +kernel)
abbrev mX9_mark : z_M := (yX9_mark, cX9_mark, 5, (some .int), 6, 126, 0, 0)
theorem oX9_mark : z_MOk mX9_mark 3 := ⟨z_mem 691 (by decide +kernel) (by decide +kernel), z_mem 42 (by decide +kernel) (by decide +kernel), ⟨by decide +kernel, by decide +kernel⟩, by decide +kernel, by decide +kernel⟩
theorem eX9_mark : Cond.instanceMethod yX9_mark ∈ z_gw := z_mem 689 (by decide +kernel) (by decide +kernel)
theorem vX9_mark : Cond.selects RX9 yX9_mark yX9_mark ∈ z_gw := z_mem 690 (by decide +kernel) (by decide +kernel)
abbrev mX9_asPane : z_M := (yX9_asPane, cX9_asPane, 2, (some .int), 3, 63, 0, 0)
theorem oX9_asPane : z_MOk mX9_asPane 1 := ⟨z_mem 696 (by decide +kernel) (by decide +kernel), z_mem 42 (by decide +kernel) (by decide +kernel), ⟨by decide +kernel, by decide +kernel⟩, by decide +kernel, by decide +kernel⟩
theorem eX9_asPane : Cond.instanceMethod yX9_asPane ∈ z_gw := z_mem 695 (by decide +kernel) (by decide +kernel)
theorem vX9_asPane : Cond.selects RX9 yX9_asPane yX9_asPane ∈ z_gw := z_mem 2 (by decide +kernel) (by decide +kernel)
abbrev mX9_asSaint : z_M := (yX9_asSaint, cX9_asSaint, 2, (some .int), 4, 84, 0, 0)
theorem oX9_asSaint : z_MOk mX9_asSaint 1 := ⟨z_mem 700 (by decide +kernel) (by decide +kernel), z_mem 42 (by decide +kernel) (by decide +kernel), ⟨by decide +kernel, by decide +kernel⟩, by decide +kernel, by decide +kernel⟩
theorem eX9_asSaint : Cond.instanceMethod yX9_asSaint ∈ z_gw := z_mem 699 (by decide +kernel) (by decide +kernel)
theorem vX9_asSaint : Cond.selects RX9 yX9_asSaint yX9_asSaint ∈ z_gw := z_mem 3 (by decide +kernel) (by decide +kernel)
abbrev mX9_asDevil : z_M := (yX9_asDevil, cX9_asDevil, 2, (some .int), 4, 84, 0, 0)
theorem oX9_asDevil : z_MOk mX9_asDevil 1 := ⟨z_mem 705 (by decide +kernel) (by decide +kernel), z_mem 42 (by decide +kernel) (by decide +kernel), ⟨by decide +kernel, by decide +kernel⟩, by decide +kernel, by decide +kernel⟩
theorem eX9_asDevil : Cond.instanceMethod yX9_asDevil ∈ z_gw := z_mem 704 (by decide +kernel) (by decide +kernel)
theorem vX9_asDevil : Cond.selects RX9 yX9_asDevil yX9_asDevil ∈ z_gw := z_mem 4 (by decide +kernel) (by decide +kernel)
abbrev mX9_asHalo : z_M := (yX9_asHalo, cX9_asHalo, 2, (some .int), 5, 105, 0, 0)
theorem oX9_asHalo : z_MOk mX9_asHalo 1 := ⟨z_mem 710 (by decide +kernel) (by decide +kernel), z_mem 42 (by decide +kernel) (by decide +kernel), ⟨by decide +kernel, by decide +kernel⟩, by decide +kernel, by decide +kernel⟩
theorem eX9_asHalo : Cond.instanceMethod yX9_asHalo ∈ z_gw := z_mem 709 (by decide +kernel) (by decide +kernel)
theorem vX9_asHalo : Cond.selects RX9 yX9_asHalo yX9_asHalo ∈ z_gw := z_mem 5 (by decide +kernel) (by decide +kernel)
abbrev mX9_asTail : z_M := (yX9_asTail, cX9_asTail, 2, (some .int), 5, 105, 0, 0)
theorem oX9_asTail : z_MOk mX9_asTail 1 := ⟨z_mem 715 (by decide +kernel) (by decide +kernel), z_mem 42 (by decide +kernel) (by decide +kernel), ⟨by decide +kernel, by decide +kernel⟩, by decide +kernel, by decide +kernel⟩
theorem eX9_asTail : Cond.instanceMethod yX9_asTail ∈ z_gw := z_mem 714 (by decide +kernel) (by decide +kernel)
theorem vX9_asTail : Cond.selects RX9 yX9_asTail yX9_asTail ∈ z_gw := z_mem 6 (by decide +kernel) (by decide +kernel)
abbrev mX9_asLead : z_M := (yX9_asLead, cX9_asLead, 2, (some .int), 4, 84, 0, 0)
theorem oX9_asLead : z_MOk mX9_asLead 1 := ⟨z_mem 720 (by decide +kernel) (by decide +kernel), z_mem 42 (by decide +kernel) (by decide +kernel), ⟨by decide +kernel, by decide +kernel⟩, by decide +kernel, by decide +kernel⟩
theorem eX9_asLead : Cond.instanceMethod yX9_asLead ∈ z_gw := z_mem 719 (by decide +kernel) (by decide +kernel)
theorem vX9_asLead : Cond.selects RX9 yX9_asLead yX9_asLead ∈ z_gw := z_mem 7 (by decide +kernel) (by decide +kernel)
abbrev mX9_keep : z_M := (yX9_keep, cX9_keep, 2, (some .int), 3, 83, 0, 0)
theorem oX9_keep : z_MOk mX9_keep 1 := ⟨z_mem 725 (by decide +kernel) (by decide +kernel), z_mem 42 (by decide +kernel) (by decide +kernel), ⟨by decide +kernel, by decide +kernel⟩, by decide +kernel, by decide +kernel⟩
theorem eX9_keep : Cond.instanceMethod yX9_keep ∈ z_gw := z_mem 723 (by decide +kernel) (by decide +kernel)
theorem vX9_keep : Cond.selects RX9 yX9_keep yX9_keep ∈ z_gw := z_mem 724 (by decide +kernel) (by decide +kernel)
abbrev mX6_become : z_M := (yX6_become, cX6_become, 3, none, 2, 61, 0, 0)
theorem oX6_become : z_MOk mX6_become 1 := ⟨z_mem 729 (by decide +kernel) (by decide +kernel), z_mem 45 (by decide +kernel) (by decide +kernel), ⟨by decide +kernel, by decide +kernel⟩, by decide +kernel, by decide +kernel⟩
theorem eX6_become : Cond.instanceMethod yX6_become ∈ z_gw := z_mem 727 (by decide +kernel) (by decide +kernel)
theorem vX6_become : Cond.selects RX6 yX6_become yX6_become ∈ z_gw := z_mem 728 (by decide +kernel) (by decide +kernel)
abbrev mX9_back : z_M := (yX9_back, cX9_back, 2, (some .int), 3, 83, 0, 0)
theorem oX9_back : z_MOk mX9_back 1 := ⟨z_mem 733 (by decide +kernel) (by decide +kernel), z_mem 42 (by decide +kernel) (by decide +kernel), ⟨by decide +kernel, by decide +kernel⟩, by decide +kernel, by decide +kernel⟩
theorem eX9_back : Cond.instanceMethod yX9_back ∈ z_gw := z_mem 731 (by decide +kernel) (by decide +kernel)
theorem vX9_back : Cond.selects RX9 yX9_back yX9_back ∈ z_gw := z_mem 732 (by decide +kernel) (by decide +kernel)
abbrev mX9_count : z_M := (yX9_count, cX9_count, 2, (some .int), 0, 0, 0, 0)
theorem oX9_count : z_MOk mX9_count 1 := ⟨z_mem 737 (by decide +kernel) (by decide +kernel), z_mem 42 (by decide +kernel) (by decide +kernel), ⟨by decide +kernel, by decide +kernel⟩, by decide +kernel, by decide +kernel⟩
theorem eX9_count : Cond.instanceMethod yX9_count ∈ z_gw := z_mem 735 (by decide +kernel) (by decide +kernel)
theorem vX9_count : Cond.selects RX9 yX9_count yX9_count ∈ z_gw := z_mem 736 (by decide +kernel) (by decide +kernel)
abbrev mX9_trace : z_M := (yX9_trace, cX9_trace, 1, (some .long), 0, 0, 0, 0)
theorem oX9_trace : z_MOk mX9_trace 0 := ⟨z_mem 741 (by decide +kernel) (by decide +kernel), z_mem 42 (by decide +kernel) (by decide +kernel), ⟨by decide +kernel, by decide +kernel⟩, by decide +kernel, by decide +kernel⟩
theorem eX9_trace : Cond.instanceMethod yX9_trace ∈ z_gw := z_mem 739 (by decide +kernel) (by decide +kernel)
theorem vX9_trace : Cond.selects RX9 yX9_trace yX9_trace ∈ z_gw := z_mem 740 (by decide +kernel) (by decide +kernel)
abbrev mX10_init : z_M := (yX10_init, cX10_init, 2, none, 1, 23, 17, 1432)
theorem oX10_init : z_MOk mX10_init 0 := ⟨z_mem 746 (by decide +kernel) (by decide +kernel), z_mem 52 (by decide +kernel) (by decide +kernel), ⟨by decide +kernel, by decide +kernel⟩, by decide +kernel, by decide +kernel⟩
theorem eX10_init : Cond.instanceMethod yX10_init ∈ z_gw := z_mem 745 (by decide +kernel) (by decide +kernel)
abbrev mX10_begins : z_M := (yX10_begins, cX10_begins, 4, none, 0, 0, 0, 0)
theorem oX10_begins : z_MOk mX10_begins 2 := ⟨z_mem 751 (by decide +kernel) (by decide +kernel), z_mem 52 (by decide +kernel) (by decide +kernel), ⟨by decide +kernel, by decide +kernel⟩, by decide +kernel, by decide +kernel⟩
theorem eX10_begins : Cond.instanceMethod yX10_begins ∈ z_gw := z_mem 750 (by decide +kernel) (by decide +kernel)
theorem vX10_begins : Cond.selects RX10 yX10_begins yX10_begins ∈ z_gw := z_mem 8 (by decide +kernel) (by decide +kernel)
abbrev mX10_type : z_M := (yX10_type, cX10_type, 2, (some .int), 1, 25, 0, 0)
theorem oX10_type : z_MOk mX10_type 1 := ⟨z_mem 859 (by decide +kernel) (by decide +kernel), z_mem 52 (by decide +kernel) (by decide +kernel), ⟨by decide +kernel, by decide +kernel⟩, by decide +kernel, by decide +kernel⟩
theorem eX10_type : Cond.instanceMethod yX10_type ∈ z_gw := z_mem 857 (by decide +kernel) (by decide +kernel)
theorem vX10_type : Cond.selects RX10 yX10_type yX10_type ∈ z_gw := z_mem 858 (by decide +kernel) (by decide +kernel)
abbrev mX10_in : z_M := (yX10_in, cX10_in, 6, (some .boolean), 0, 0, 0, 0)
theorem oX10_in : z_MOk mX10_in 3 := ⟨z_mem 863 (by decide +kernel) (by decide +kernel), z_mem 52 (by decide +kernel) (by decide +kernel), ⟨by decide +kernel, by decide +kernel⟩, by decide +kernel, by decide +kernel⟩
theorem sX10_in : Cond.static yX10_in ∈ z_gw := z_mem 862 (by decide +kernel) (by decide +kernel)
abbrev mX10_clear : z_M := (yX10_clear, cX10_clear, 2, (some .int), 0, 0, 0, 0)
theorem oX10_clear : z_MOk mX10_clear 0 := ⟨z_mem 867 (by decide +kernel) (by decide +kernel), z_mem 52 (by decide +kernel) (by decide +kernel), ⟨by decide +kernel, by decide +kernel⟩, by decide +kernel, by decide +kernel⟩
theorem eX10_clear : Cond.instanceMethod yX10_clear ∈ z_gw := z_mem 865 (by decide +kernel) (by decide +kernel)
theorem vX10_clear : Cond.selects RX10 yX10_clear yX10_clear ∈ z_gw := z_mem 866 (by decide +kernel) (by decide +kernel)
abbrev mX10_window : z_M := (yX10_window, cX10_window, 2, (some .int), 6, 130, 0, 0)
theorem oX10_window : z_MOk mX10_window 0 := ⟨z_mem 871 (by decide +kernel) (by decide +kernel), z_mem 52 (by decide +kernel) (by decide +kernel), ⟨by decide +kernel, by decide +kernel⟩, by decide +kernel, by decide +kernel⟩
theorem eX10_window : Cond.instanceMethod yX10_window ∈ z_gw := z_mem 869 (by decide +kernel) (by decide +kernel)
theorem vX10_window : Cond.selects RX10 yX10_window yX10_window ∈ z_gw := z_mem 870 (by decide +kernel) (by decide +kernel)
abbrev mX10_step : z_M := (yX10_step, cX10_step, 1, none, 2, 45, 0, 0)
theorem oX10_step : z_MOk mX10_step 0 := ⟨z_mem 875 (by decide +kernel) (by decide +kernel), z_mem 52 (by decide +kernel) (by decide +kernel), ⟨by decide +kernel, by decide +kernel⟩, by decide +kernel, by decide +kernel⟩
theorem eX10_step : Cond.instanceMethod yX10_step ∈ z_gw := z_mem 874 (by decide +kernel) (by decide +kernel)
theorem vX10_step : Cond.selects RX10 yX10_step yX10_step ∈ z_gw := z_mem 9 (by decide +kernel) (by decide +kernel)
abbrev mX10_isLetter : z_M := (yX10_isLetter, cX10_isLetter, 1, (some .boolean), 1, 25, 0, 0)
theorem oX10_isLetter : z_MOk mX10_isLetter 0 := ⟨z_mem 879 (by decide +kernel) (by decide +kernel), z_mem 52 (by decide +kernel) (by decide +kernel), ⟨by decide +kernel, by decide +kernel⟩, by decide +kernel, by decide +kernel⟩
theorem eX10_isLetter : Cond.instanceMethod yX10_isLetter ∈ z_gw := z_mem 878 (by decide +kernel) (by decide +kernel)
theorem vX10_isLetter : Cond.selects RX10 yX10_isLetter yX10_isLetter ∈ z_gw := z_mem 10 (by decide +kernel) (by decide +kernel)
abbrev mX10_isFigure : z_M := (yX10_isFigure, cX10_isFigure, 1, (some .boolean), 1, 25, 0, 0)
theorem oX10_isFigure : z_MOk mX10_isFigure 0 := ⟨z_mem 885 (by decide +kernel) (by decide +kernel), z_mem 52 (by decide +kernel) (by decide +kernel), ⟨by decide +kernel, by decide +kernel⟩, by decide +kernel, by decide +kernel⟩
theorem eX10_isFigure : Cond.instanceMethod yX10_isFigure ∈ z_gw := z_mem 884 (by decide +kernel) (by decide +kernel)
theorem vX10_isFigure : Cond.selects RX10 yX10_isFigure yX10_isFigure ∈ z_gw := z_mem 11 (by decide +kernel) (by decide +kernel)
abbrev mX10_readsItem : z_M := (yX10_readsItem, cX10_readsItem, 2, (some .boolean), 5, 109, 0, 0)
theorem oX10_readsItem : z_MOk mX10_readsItem 1 := ⟨z_mem 891 (by decide +kernel) (by decide +kernel), z_mem 52 (by decide +kernel) (by decide +kernel), ⟨by decide +kernel, by decide +kernel⟩, by decide +kernel, by decide +kernel⟩
theorem eX10_readsItem : Cond.instanceMethod yX10_readsItem ∈ z_gw := z_mem 890 (by decide +kernel) (by decide +kernel)
theorem vX10_readsItem : Cond.selects RX10 yX10_readsItem yX10_readsItem ∈ z_gw := z_mem 12 (by decide +kernel) (by decide +kernel)
abbrev mX10_readsWindow : z_M := (yX10_readsWindow, cX10_readsWindow, 1, (some .boolean), 4, 87, 0, 0)
theorem oX10_readsWindow : z_MOk mX10_readsWindow 0 := ⟨z_mem 895 (by decide +kernel) (by decide +kernel), z_mem 52 (by decide +kernel) (by decide +kernel), ⟨by decide +kernel, by decide +kernel⟩, by decide +kernel, by decide +kernel⟩
theorem eX10_readsWindow : Cond.instanceMethod yX10_readsWindow ∈ z_gw := z_mem 894 (by decide +kernel) (by decide +kernel)
theorem vX10_readsWindow : Cond.selects RX10 yX10_readsWindow yX10_readsWindow ∈ z_gw := z_mem 13 (by decide +kernel) (by decide +kernel)
abbrev mX10_number : z_M := (yX10_number, cX10_number, 3, (some .boolean), 3, 65, 0, 0)
theorem oX10_number : z_MOk mX10_number 2 := ⟨z_mem 899 (by decide +kernel) (by decide +kernel), z_mem 52 (by decide +kernel) (by decide +kernel), ⟨by decide +kernel, by decide +kernel⟩, by decide +kernel, by decide +kernel⟩
theorem eX10_number : Cond.instanceMethod yX10_number ∈ z_gw := z_mem 898 (by decide +kernel) (by decide +kernel)
theorem vX10_number : Cond.selects RX10 yX10_number yX10_number ∈ z_gw := z_mem 14 (by decide +kernel) (by decide +kernel)
abbrev mX10_readsPane : z_M := (yX10_readsPane, cX10_readsPane, 3, (some .boolean), 4, 87, 0, 0)
theorem oX10_readsPane : z_MOk mX10_readsPane 0 := ⟨z_mem 903 (by decide +kernel) (by decide +kernel), z_mem 52 (by decide +kernel) (by decide +kernel), ⟨by decide +kernel, by decide +kernel⟩, by decide +kernel, by decide +kernel⟩
theorem eX10_readsPane : Cond.instanceMethod yX10_readsPane ∈ z_gw := z_mem 902 (by decide +kernel) (by decide +kernel)
theorem vX10_readsPane : Cond.selects RX10 yX10_readsPane yX10_readsPane ∈ z_gw := z_mem 15 (by decide +kernel) (by decide +kernel)
abbrev mX10_readsSheet : z_M := (yX10_readsSheet, cX10_readsSheet, 1, (some .boolean), 4, 87, 0, 0)
theorem oX10_readsSheet : z_MOk mX10_readsSheet 0 := ⟨z_mem 907 (by decide +kernel) (by decide +kernel), z_mem 52 (by decide +kernel) (by decide +kernel), ⟨by decide +kernel, by decide +kernel⟩, by decide +kernel, by decide +kernel⟩
theorem eX10_readsSheet : Cond.instanceMethod yX10_readsSheet ∈ z_gw := z_mem 906 (by decide +kernel) (by decide +kernel)
theorem vX10_readsSheet : Cond.selects RX10 yX10_readsSheet yX10_readsSheet ∈ z_gw := z_mem 16 (by decide +kernel) (by decide +kernel)
abbrev mX10_readsMirror : z_M := (yX10_readsMirror, cX10_readsMirror, 1, (some .boolean), 4, 87, 0, 0)
theorem oX10_readsMirror : z_MOk mX10_readsMirror 0 := ⟨z_mem 911 (by decide +kernel) (by decide +kernel), z_mem 52 (by decide +kernel) (by decide +kernel), ⟨by decide +kernel, by decide +kernel⟩, by decide +kernel, by decide +kernel⟩
theorem eX10_readsMirror : Cond.instanceMethod yX10_readsMirror ∈ z_gw := z_mem 910 (by decide +kernel) (by decide +kernel)
theorem vX10_readsMirror : Cond.selects RX10 yX10_readsMirror yX10_readsMirror ∈ z_gw := z_mem 17 (by decide +kernel) (by decide +kernel)
abbrev mX10_readsSeason : z_M := (yX10_readsSeason, cX10_readsSeason, 1, (some .boolean), 4, 87, 0, 0)
theorem oX10_readsSeason : z_MOk mX10_readsSeason 0 := ⟨z_mem 915 (by decide +kernel) (by decide +kernel), z_mem 52 (by decide +kernel) (by decide +kernel), ⟨by decide +kernel, by decide +kernel⟩, by decide +kernel, by decide +kernel⟩
theorem eX10_readsSeason : Cond.instanceMethod yX10_readsSeason ∈ z_gw := z_mem 914 (by decide +kernel) (by decide +kernel)
theorem vX10_readsSeason : Cond.selects RX10 yX10_readsSeason yX10_readsSeason ∈ z_gw := z_mem 18 (by decide +kernel) (by decide +kernel)
abbrev mX10_copies : z_M := (yX10_copies, cX10_copies, 6, none, 0, 0, 0, 0)
theorem oX10_copies : z_MOk mX10_copies 5 := ⟨z_mem 918 (by decide +kernel) (by decide +kernel), z_mem 52 (by decide +kernel) (by decide +kernel), ⟨by decide +kernel, by decide +kernel⟩, by decide +kernel, by decide +kernel⟩
theorem sX10_copies : Cond.static yX10_copies ∈ z_gw := z_mem 917 (by decide +kernel) (by decide +kernel)
abbrev mX10_pane : z_M := (yX10_pane, cX10_pane, 5, (some .int), 3, 66, 0, 0)
theorem oX10_pane : z_MOk mX10_pane 3 := ⟨z_mem 922 (by decide +kernel) (by decide +kernel), z_mem 52 (by decide +kernel) (by decide +kernel), ⟨by decide +kernel, by decide +kernel⟩, by decide +kernel, by decide +kernel⟩
theorem eX10_pane : Cond.instanceMethod yX10_pane ∈ z_gw := z_mem 920 (by decide +kernel) (by decide +kernel)
theorem vX10_pane : Cond.selects RX10 yX10_pane yX10_pane ∈ z_gw := z_mem 921 (by decide +kernel) (by decide +kernel)
abbrev mX10_isPane : z_M := (yX10_isPane, cX10_isPane, 3, (some .boolean), 1, 25, 0, 0)
theorem oX10_isPane : z_MOk mX10_isPane 2 := ⟨z_mem 926 (by decide +kernel) (by decide +kernel), z_mem 52 (by decide +kernel) (by decide +kernel), ⟨by decide +kernel, by decide +kernel⟩, by decide +kernel, by decide +kernel⟩
theorem eX10_isPane : Cond.instanceMethod yX10_isPane ∈ z_gw := z_mem 925 (by decide +kernel) (by decide +kernel)
theorem vX10_isPane : Cond.selects RX10 yX10_isPane yX10_isPane ∈ z_gw := z_mem 19 (by decide +kernel) (by decide +kernel)
abbrev mX10_sheetsAt : z_M := (yX10_sheetsAt, cX10_sheetsAt, 5, (some .int), 0, 0, 0, 0)
theorem oX10_sheetsAt : z_MOk mX10_sheetsAt 2 := ⟨z_mem 930 (by decide +kernel) (by decide +kernel), z_mem 52 (by decide +kernel) (by decide +kernel), ⟨by decide +kernel, by decide +kernel⟩, by decide +kernel, by decide +kernel⟩
theorem eX10_sheetsAt : Cond.instanceMethod yX10_sheetsAt ∈ z_gw := z_mem 929 (by decide +kernel) (by decide +kernel)
theorem vX10_sheetsAt : Cond.selects RX10 yX10_sheetsAt yX10_sheetsAt ∈ z_gw := z_mem 20 (by decide +kernel) (by decide +kernel)
abbrev mX10_lets : z_M := (yX10_lets, cX10_lets, 3, (some .int), 2, 44, 0, 0)
theorem oX10_lets : z_MOk mX10_lets 2 := ⟨z_mem 934 (by decide +kernel) (by decide +kernel), z_mem 52 (by decide +kernel) (by decide +kernel), ⟨by decide +kernel, by decide +kernel⟩, by decide +kernel, by decide +kernel⟩
theorem eX10_lets : Cond.instanceMethod yX10_lets ∈ z_gw := z_mem 933 (by decide +kernel) (by decide +kernel)
theorem vX10_lets : Cond.selects RX10 yX10_lets yX10_lets ∈ z_gw := z_mem 21 (by decide +kernel) (by decide +kernel)
abbrev mX10_has : z_M := (yX10_has, cX10_has, 2, (some .boolean), 0, 0, 0, 0)
theorem oX10_has : z_MOk mX10_has 2 := ⟨z_mem 937 (by decide +kernel) (by decide +kernel), z_mem 52 (by decide +kernel) (by decide +kernel), ⟨by decide +kernel, by decide +kernel⟩, by decide +kernel, by decide +kernel⟩
theorem sX10_has : Cond.static yX10_has ∈ z_gw := z_mem 936 (by decide +kernel) (by decide +kernel)
abbrev mX10_through : z_M := (yX10_through, cX10_through, 4, (some .int), 1, 21, 0, 0)
theorem oX10_through : z_MOk mX10_through 1 := ⟨z_mem 941 (by decide +kernel) (by decide +kernel), z_mem 52 (by decide +kernel) (by decide +kernel), ⟨by decide +kernel, by decide +kernel⟩, by decide +kernel, by decide +kernel⟩
theorem eX10_through : Cond.instanceMethod yX10_through ∈ z_gw := z_mem 940 (by decide +kernel) (by decide +kernel)
theorem vX10_through : Cond.selects RX10 yX10_through yX10_through ∈ z_gw := z_mem 22 (by decide +kernel) (by decide +kernel)
abbrev mX10_sheet : z_M := (yX10_sheet, cX10_sheet, 3, (some .int), 2, 46, 0, 0)
theorem oX10_sheet : z_MOk mX10_sheet 2 := ⟨z_mem 945 (by decide +kernel) (by decide +kernel), z_mem 52 (by decide +kernel) (by decide +kernel), ⟨by decide +kernel, by decide +kernel⟩, by decide +kernel, by decide +kernel⟩
theorem eX10_sheet : Cond.instanceMethod yX10_sheet ∈ z_gw := z_mem 943 (by decide +kernel) (by decide +kernel)
theorem vX10_sheet : Cond.selects RX10 yX10_sheet yX10_sheet ∈ z_gw := z_mem 944 (by decide +kernel) (by decide +kernel)
abbrev mX10_isSheet : z_M := (yX10_isSheet, cX10_isSheet, 2, (some .boolean), 1, 25, 0, 0)
theorem oX10_isSheet : z_MOk mX10_isSheet 1 := ⟨z_mem 949 (by decide +kernel) (by decide +kernel), z_mem 52 (by decide +kernel) (by decide +kernel), ⟨by decide +kernel, by decide +kernel⟩, by decide +kernel, by decide +kernel⟩
theorem eX10_isSheet : Cond.instanceMethod yX10_isSheet ∈ z_gw := z_mem 948 (by decide +kernel) (by decide +kernel)
theorem vX10_isSheet : Cond.selects RX10 yX10_isSheet yX10_isSheet ∈ z_gw := z_mem 23 (by decide +kernel) (by decide +kernel)
abbrev mX10_lays : z_M := (yX10_lays, cX10_lays, 5, (some .int), 3, 66, 0, 0)
theorem oX10_lays : z_MOk mX10_lays 3 := ⟨z_mem 953 (by decide +kernel) (by decide +kernel), z_mem 52 (by decide +kernel) (by decide +kernel), ⟨by decide +kernel, by decide +kernel⟩, by decide +kernel, by decide +kernel⟩
theorem eX10_lays : Cond.instanceMethod yX10_lays ∈ z_gw := z_mem 951 (by decide +kernel) (by decide +kernel)
theorem vX10_lays : Cond.selects RX10 yX10_lays yX10_lays ∈ z_gw := z_mem 952 (by decide +kernel) (by decide +kernel)
abbrev mX10_bits : z_M := (yX10_bits, cX10_bits, 3, (some .int), 0, 0, 0, 0)
theorem oX10_bits : z_MOk mX10_bits 1 := ⟨z_mem 956 (by decide +kernel) (by decide +kernel), z_mem 52 (by decide +kernel) (by decide +kernel), ⟨by decide +kernel, by decide +kernel⟩, by decide +kernel, by decide +kernel⟩
theorem sX10_bits : Cond.static yX10_bits ∈ z_gw := z_mem 955 (by decide +kernel) (by decide +kernel)
abbrev mX10_remember : z_M := (yX10_remember, cX10_remember, 2, none, 1, 25, 0, 0)
theorem oX10_remember : z_MOk mX10_remember 0 := ⟨z_mem 960 (by decide +kernel) (by decide +kernel), z_mem 52 (by decide +kernel) (by decide +kernel), ⟨by decide +kernel, by decide +kernel⟩, by decide +kernel, by decide +kernel⟩
theorem eX10_remember : Cond.instanceMethod yX10_remember ∈ z_gw := z_mem 959 (by decide +kernel) (by decide +kernel)
theorem vX10_remember : Cond.selects RX10 yX10_remember yX10_remember ∈ z_gw := z_mem 24 (by decide +kernel) (by decide +kernel)
abbrev mX10_takes : z_M := (yX10_takes, cX10_takes, 3, (some .int), 2, 46, 0, 0)
theorem oX10_takes : z_MOk mX10_takes 1 := ⟨z_mem 964 (by decide +kernel) (by decide +kernel), z_mem 52 (by decide +kernel) (by decide +kernel), ⟨by decide +kernel, by decide +kernel⟩, by decide +kernel, by decide +kernel⟩
theorem eX10_takes : Cond.instanceMethod yX10_takes ∈ z_gw := z_mem 962 (by decide +kernel) (by decide +kernel)
theorem vX10_takes : Cond.selects RX10 yX10_takes yX10_takes ∈ z_gw := z_mem 963 (by decide +kernel) (by decide +kernel)
abbrev mX10_breaks : z_M := (yX10_breaks, cX10_breaks, 5, (some .int), 2, 47, 0, 0)
theorem oX10_breaks : z_MOk mX10_breaks 2 := ⟨z_mem 968 (by decide +kernel) (by decide +kernel), z_mem 52 (by decide +kernel) (by decide +kernel), ⟨by decide +kernel, by decide +kernel⟩, by decide +kernel, by decide +kernel⟩
theorem eX10_breaks : Cond.instanceMethod yX10_breaks ∈ z_gw := z_mem 966 (by decide +kernel) (by decide +kernel)
theorem vX10_breaks : Cond.selects RX10 yX10_breaks yX10_breaks ∈ z_gw := z_mem 967 (by decide +kernel) (by decide +kernel)
abbrev mX10_breaksOn : z_M := (yX10_breaksOn, cX10_breaksOn, 3, none, 0, 0, 0, 0)
theorem oX10_breaksOn : z_MOk mX10_breaksOn 2 := ⟨z_mem 971 (by decide +kernel) (by decide +kernel), z_mem 52 (by decide +kernel) (by decide +kernel), ⟨by decide +kernel, by decide +kernel⟩, by decide +kernel, by decide +kernel⟩
theorem sX10_breaksOn : Cond.static yX10_breaksOn ∈ z_gw := z_mem 970 (by decide +kernel) (by decide +kernel)
abbrev mX10_mends : z_M := (yX10_mends, cX10_mends, 4, (some .int), 2, 47, 0, 0)
theorem oX10_mends : z_MOk mX10_mends 2 := ⟨z_mem 975 (by decide +kernel) (by decide +kernel), z_mem 52 (by decide +kernel) (by decide +kernel), ⟨by decide +kernel, by decide +kernel⟩, by decide +kernel, by decide +kernel⟩
theorem eX10_mends : Cond.instanceMethod yX10_mends ∈ z_gw := z_mem 973 (by decide +kernel) (by decide +kernel)
theorem vX10_mends : Cond.selects RX10 yX10_mends yX10_mends ∈ z_gw := z_mem 974 (by decide +kernel) (by decide +kernel)
abbrev mX10_moves : z_M := (yX10_moves, cX10_moves, 5, (some .int), 2, 46, 0, 0)
theorem oX10_moves : z_MOk mX10_moves 2 := ⟨z_mem 979 (by decide +kernel) (by decide +kernel), z_mem 52 (by decide +kernel) (by decide +kernel), ⟨by decide +kernel, by decide +kernel⟩, by decide +kernel, by decide +kernel⟩
theorem eX10_moves : Cond.instanceMethod yX10_moves ∈ z_gw := z_mem 977 (by decide +kernel) (by decide +kernel)
theorem vX10_moves : Cond.selects RX10 yX10_moves yX10_moves ∈ z_gw := z_mem 978 (by decide +kernel) (by decide +kernel)
abbrev mX10_undo : z_M := (yX10_undo, cX10_undo, 1, (some .int), 1, 25, 0, 0)
theorem oX10_undo : z_MOk mX10_undo 0 := ⟨z_mem 985 (by decide +kernel) (by decide +kernel), z_mem 52 (by decide +kernel) (by decide +kernel), ⟨by decide +kernel, by decide +kernel⟩, by decide +kernel, by decide +kernel⟩
theorem eX10_undo : Cond.instanceMethod yX10_undo ∈ z_gw := z_mem 983 (by decide +kernel) (by decide +kernel)
theorem vX10_undo : Cond.selects RX10 yX10_undo yX10_undo ∈ z_gw := z_mem 984 (by decide +kernel) (by decide +kernel)
abbrev mX10_now : z_M := (yX10_now, cX10_now, 2, (some .int), 5, 114, 0, 0)
theorem oX10_now : z_MOk mX10_now 1 := ⟨z_mem 989 (by decide +kernel) (by decide +kernel), z_mem 52 (by decide +kernel) (by decide +kernel), ⟨by decide +kernel, by decide +kernel⟩, by decide +kernel, by decide +kernel⟩
theorem eX10_now : Cond.instanceMethod yX10_now ∈ z_gw := z_mem 987 (by decide +kernel) (by decide +kernel)
theorem vX10_now : Cond.selects RX10 yX10_now yX10_now ∈ z_gw := z_mem 988 (by decide +kernel) (by decide +kernel)
abbrev mX10_leadsNow : z_M := (yX10_leadsNow, cX10_leadsNow, 1, (some .int), 4, 94, 0, 0)
theorem oX10_leadsNow : z_MOk mX10_leadsNow 0 := ⟨z_mem 993 (by decide +kernel) (by decide +kernel), z_mem 52 (by decide +kernel) (by decide +kernel), ⟨by decide +kernel, by decide +kernel⟩, by decide +kernel, by decide +kernel⟩
theorem eX10_leadsNow : Cond.instanceMethod yX10_leadsNow ∈ z_gw := z_mem 992 (by decide +kernel) (by decide +kernel)
theorem vX10_leadsNow : Cond.selects RX10 yX10_leadsNow yX10_leadsNow ∈ z_gw := z_mem 25 (by decide +kernel) (by decide +kernel)
abbrev mX10_layColours : z_M := (yX10_layColours, cX10_layColours, 2, none, 1, 21, 0, 0)
theorem oX10_layColours : z_MOk mX10_layColours 0 := ⟨z_mem 997 (by decide +kernel) (by decide +kernel), z_mem 52 (by decide +kernel) (by decide +kernel), ⟨by decide +kernel, by decide +kernel⟩, by decide +kernel, by decide +kernel⟩
theorem eX10_layColours : Cond.instanceMethod yX10_layColours ∈ z_gw := z_mem 996 (by decide +kernel) (by decide +kernel)
theorem vX10_layColours : Cond.selects RX10 yX10_layColours yX10_layColours ∈ z_gw := z_mem 26 (by decide +kernel) (by decide +kernel)
abbrev mX10_leads : z_M := (yX10_leads, cX10_leads, 4, (some .int), 3, 71, 0, 0)
theorem oX10_leads : z_MOk mX10_leads 0 := ⟨z_mem 1001 (by decide +kernel) (by decide +kernel), z_mem 52 (by decide +kernel) (by decide +kernel), ⟨by decide +kernel, by decide +kernel⟩, by decide +kernel, by decide +kernel⟩
theorem eX10_leads : Cond.instanceMethod yX10_leads ∈ z_gw := z_mem 1000 (by decide +kernel) (by decide +kernel)
theorem vX10_leads : Cond.selects RX10 yX10_leads yX10_leads ∈ z_gw := z_mem 27 (by decide +kernel) (by decide +kernel)
abbrev mX10_unlike : z_M := (yX10_unlike, cX10_unlike, 5, (some .boolean), 2, 47, 0, 0)
theorem oX10_unlike : z_MOk mX10_unlike 4 := ⟨z_mem 1005 (by decide +kernel) (by decide +kernel), z_mem 52 (by decide +kernel) (by decide +kernel), ⟨by decide +kernel, by decide +kernel⟩, by decide +kernel, by decide +kernel⟩
theorem eX10_unlike : Cond.instanceMethod yX10_unlike ∈ z_gw := z_mem 1004 (by decide +kernel) (by decide +kernel)
theorem vX10_unlike : Cond.selects RX10 yX10_unlike yX10_unlike ∈ z_gw := z_mem 28 (by decide +kernel) (by decide +kernel)
abbrev mX10_parts : z_M := (yX10_parts, cX10_parts, 7, (some .int), 3, 74, 0, 0)
theorem oX10_parts : z_MOk mX10_parts 1 := ⟨z_mem 1009 (by decide +kernel) (by decide +kernel), z_mem 52 (by decide +kernel) (by decide +kernel), ⟨by decide +kernel, by decide +kernel⟩, by decide +kernel, by decide +kernel⟩
theorem eX10_parts : Cond.instanceMethod yX10_parts ∈ z_gw := z_mem 1008 (by decide +kernel) (by decide +kernel)
theorem vX10_parts : Cond.selects RX10 yX10_parts yX10_parts ∈ z_gw := z_mem 29 (by decide +kernel) (by decide +kernel)
abbrev mX10_partFrom : z_M := (yX10_partFrom, cX10_partFrom, 8, (some .int), 2, 47, 0, 0)
theorem oX10_partFrom : z_MOk mX10_partFrom 1 := ⟨z_mem 1013 (by decide +kernel) (by decide +kernel), z_mem 52 (by decide +kernel) (by decide +kernel), ⟨by decide +kernel, by decide +kernel⟩, by decide +kernel, by decide +kernel⟩
theorem eX10_partFrom : Cond.instanceMethod yX10_partFrom ∈ z_gw := z_mem 1012 (by decide +kernel) (by decide +kernel)
theorem vX10_partFrom : Cond.selects RX10 yX10_partFrom yX10_partFrom ∈ z_gw := z_mem 30 (by decide +kernel) (by decide +kernel)
abbrev mX10_paint : z_M := (yX10_paint, cX10_paint, 10, (some .int), 4, 94, 0, 0)
theorem oX10_paint : z_MOk mX10_paint 1 := ⟨z_mem 1017 (by decide +kernel) (by decide +kernel), z_mem 52 (by decide +kernel) (by decide +kernel), ⟨by decide +kernel, by decide +kernel⟩, by decide +kernel, by decide +kernel⟩
theorem eX10_paint : Cond.instanceMethod yX10_paint ∈ z_gw := z_mem 1015 (by decide +kernel) (by decide +kernel)
theorem vX10_paint : Cond.selects RX10 yX10_paint yX10_paint ∈ z_gw := z_mem 1016 (by decide +kernel) (by decide +kernel)
abbrev mX10_light : z_M := (yX10_light, cX10_light, 4, (some .int), 4, 102, 0, 0)
theorem oX10_light : z_MOk mX10_light 3 := ⟨z_mem 1022 (by decide +kernel) (by decide +kernel), z_mem 52 (by decide +kernel) (by decide +kernel), ⟨by decide +kernel, by decide +kernel⟩, by decide +kernel, by decide +kernel⟩
theorem eX10_light : Cond.instanceMethod yX10_light ∈ z_gw := z_mem 1020 (by decide +kernel) (by decide +kernel)
theorem vX10_light : Cond.selects RX10 yX10_light yX10_light ∈ z_gw := z_mem 1021 (by decide +kernel) (by decide +kernel)
abbrev mX10_isTile : z_M := (yX10_isTile, cX10_isTile, 2, (some .boolean), 1, 25, 0, 0)
theorem oX10_isTile : z_MOk mX10_isTile 2 := ⟨z_mem 1025 (by decide +kernel) (by decide +kernel), z_mem 52 (by decide +kernel) (by decide +kernel), ⟨by decide +kernel, by decide +kernel⟩, by decide +kernel, by decide +kernel⟩
theorem sX10_isTile : Cond.static yX10_isTile ∈ z_gw := z_mem 1024 (by decide +kernel) (by decide +kernel)
abbrev mX10_isHour : z_M := (yX10_isHour, cX10_isHour, 1, (some .boolean), 1, 25, 0, 0)
theorem oX10_isHour : z_MOk mX10_isHour 1 := ⟨z_mem 1030 (by decide +kernel) (by decide +kernel), z_mem 52 (by decide +kernel) (by decide +kernel), ⟨by decide +kernel, by decide +kernel⟩, by decide +kernel, by decide +kernel⟩
theorem sX10_isHour : Cond.static yX10_isHour ∈ z_gw := z_mem 1029 (by decide +kernel) (by decide +kernel)
abbrev mX10_lightOn : z_M := (yX10_lightOn, cX10_lightOn, 7, (some .int), 3, 76, 0, 0)
theorem oX10_lightOn : z_MOk mX10_lightOn 4 := ⟨z_mem 1035 (by decide +kernel) (by decide +kernel), z_mem 52 (by decide +kernel) (by decide +kernel), ⟨by decide +kernel, by decide +kernel⟩, by decide +kernel, by decide +kernel⟩
theorem eX10_lightOn : Cond.instanceMethod yX10_lightOn ∈ z_gw := z_mem 1034 (by decide +kernel) (by decide +kernel)
theorem vX10_lightOn : Cond.selects RX10 yX10_lightOn yX10_lightOn ∈ z_gw := z_mem 31 (by decide +kernel) (by decide +kernel)
abbrev mX10_paneAt : z_M := (yX10_paneAt, cX10_paneAt, 10, (some .int), 2, 47, 0, 0)
theorem oX10_paneAt : z_MOk mX10_paneAt 5 := ⟨z_mem 1039 (by decide +kernel) (by decide +kernel), z_mem 52 (by decide +kernel) (by decide +kernel), ⟨by decide +kernel, by decide +kernel⟩, by decide +kernel, by decide +kernel⟩
theorem eX10_paneAt : Cond.instanceMethod yX10_paneAt ∈ z_gw := z_mem 1038 (by decide +kernel) (by decide +kernel)
theorem vX10_paneAt : Cond.selects RX10 yX10_paneAt yX10_paneAt ∈ z_gw := z_mem 32 (by decide +kernel) (by decide +kernel)
abbrev mX10_lit : z_M := (yX10_lit, cX10_lit, 8, (some .int), 5, 124, 0, 0)
theorem oX10_lit : z_MOk mX10_lit 3 := ⟨z_mem 1043 (by decide +kernel) (by decide +kernel), z_mem 52 (by decide +kernel) (by decide +kernel), ⟨by decide +kernel, by decide +kernel⟩, by decide +kernel, by decide +kernel⟩
theorem eX10_lit : Cond.instanceMethod yX10_lit ∈ z_gw := z_mem 1041 (by decide +kernel) (by decide +kernel)
theorem vX10_lit : Cond.selects RX10 yX10_lit yX10_lit ∈ z_gw := z_mem 1042 (by decide +kernel) (by decide +kernel)
abbrev mX10_isColour : z_M := (yX10_isColour, cX10_isColour, 1, (some .boolean), 1, 25, 0, 0)
theorem oX10_isColour : z_MOk mX10_isColour 1 := ⟨z_mem 1046 (by decide +kernel) (by decide +kernel), z_mem 52 (by decide +kernel) (by decide +kernel), ⟨by decide +kernel, by decide +kernel⟩, by decide +kernel, by decide +kernel⟩
theorem sX10_isColour : Cond.static yX10_isColour ∈ z_gw := z_mem 1045 (by decide +kernel) (by decide +kernel)
abbrev mX10_lightAt : z_M := (yX10_lightAt, cX10_lightAt, 3, (some .int), 4, 102, 0, 0)
theorem oX10_lightAt : z_MOk mX10_lightAt 2 := ⟨z_mem 1050 (by decide +kernel) (by decide +kernel), z_mem 52 (by decide +kernel) (by decide +kernel), ⟨by decide +kernel, by decide +kernel⟩, by decide +kernel, by decide +kernel⟩
theorem eX10_lightAt : Cond.instanceMethod yX10_lightAt ∈ z_gw := z_mem 1049 (by decide +kernel) (by decide +kernel)
theorem vX10_lightAt : Cond.selects RX10 yX10_lightAt yX10_lightAt ∈ z_gw := z_mem 33 (by decide +kernel) (by decide +kernel)
abbrev mX10_when : z_M := (yX10_when, cX10_when, 5, (some .int), 4, 102, 0, 0)
theorem oX10_when : z_MOk mX10_when 3 := ⟨z_mem 1054 (by decide +kernel) (by decide +kernel), z_mem 52 (by decide +kernel) (by decide +kernel), ⟨by decide +kernel, by decide +kernel⟩, by decide +kernel, by decide +kernel⟩
theorem eX10_when : Cond.instanceMethod yX10_when ∈ z_gw := z_mem 1052 (by decide +kernel) (by decide +kernel)
theorem vX10_when : Cond.selects RX10 yX10_when yX10_when ∈ z_gw := z_mem 1053 (by decide +kernel) (by decide +kernel)
abbrev mX10_mix : z_M := (yX10_mix, cX10_mix, 15, (some .int), 4, 87, 0, 0)
theorem oX10_mix : z_MOk mX10_mix 5 := ⟨z_mem 1058 (by decide +kernel) (by decide +kernel), z_mem 52 (by decide +kernel) (by decide +kernel), ⟨by decide +kernel, by decide +kernel⟩, by decide +kernel, by decide +kernel⟩
theorem eX10_mix : Cond.instanceMethod yX10_mix ∈ z_gw := z_mem 1056 (by decide +kernel) (by decide +kernel)
theorem vX10_mix : Cond.selects RX10 yX10_mix yX10_mix ∈ z_gw := z_mem 1057 (by decide +kernel) (by decide +kernel)
abbrev mX10_free : z_M := (yX10_free, cX10_free, 2, (some .int), 1, 24, 0, 0)
theorem oX10_free : z_MOk mX10_free 1 := ⟨z_mem 1063 (by decide +kernel) (by decide +kernel), z_mem 52 (by decide +kernel) (by decide +kernel), ⟨by decide +kernel, by decide +kernel⟩, by decide +kernel, by decide +kernel⟩
theorem eX10_free : Cond.instanceMethod yX10_free ∈ z_gw := z_mem 1062 (by decide +kernel) (by decide +kernel)
theorem vX10_free : Cond.selects RX10 yX10_free yX10_free ∈ z_gw := z_mem 34 (by decide +kernel) (by decide +kernel)
abbrev mX10_letsNow : z_M := (yX10_letsNow, cX10_letsNow, 2, (some .int), 3, 66, 0, 0)
theorem oX10_letsNow : z_MOk mX10_letsNow 1 := ⟨z_mem 1067 (by decide +kernel) (by decide +kernel), z_mem 52 (by decide +kernel) (by decide +kernel), ⟨by decide +kernel, by decide +kernel⟩, by decide +kernel, by decide +kernel⟩
theorem eX10_letsNow : Cond.instanceMethod yX10_letsNow ∈ z_gw := z_mem 1066 (by decide +kernel) (by decide +kernel)
theorem vX10_letsNow : Cond.selects RX10 yX10_letsNow yX10_letsNow ∈ z_gw := z_mem 35 (by decide +kernel) (by decide +kernel)
abbrev mX10_child : z_M := (yX10_child, cX10_child, 9, (some .int), 6, 148, 0, 0)
theorem oX10_child : z_MOk mX10_child 5 := ⟨z_mem 1071 (by decide +kernel) (by decide +kernel), z_mem 52 (by decide +kernel) (by decide +kernel), ⟨by decide +kernel, by decide +kernel⟩, by decide +kernel, by decide +kernel⟩
theorem eX10_child : Cond.instanceMethod yX10_child ∈ z_gw := z_mem 1069 (by decide +kernel) (by decide +kernel)
theorem vX10_child : Cond.selects RX10 yX10_child yX10_child ∈ z_gw := z_mem 1070 (by decide +kernel) (by decide +kernel)
abbrev mX10_layHours : z_M := (yX10_layHours, cX10_layHours, 5, none, 5, 124, 0, 0)
theorem oX10_layHours : z_MOk mX10_layHours 1 := ⟨z_mem 1076 (by decide +kernel) (by decide +kernel), z_mem 52 (by decide +kernel) (by decide +kernel), ⟨by decide +kernel, by decide +kernel⟩, by decide +kernel, by decide +kernel⟩
theorem eX10_layHours : Cond.instanceMethod yX10_layHours ∈ z_gw := z_mem 1075 (by decide +kernel) (by decide +kernel)
theorem vX10_layHours : Cond.selects RX10 yX10_layHours yX10_layHours ∈ z_gw := z_mem 36 (by decide +kernel) (by decide +kernel)
abbrev mX10_nextTile : z_M := (yX10_nextTile, cX10_nextTile, 7, (some .int), 2, 46, 0, 0)
theorem oX10_nextTile : z_MOk mX10_nextTile 2 := ⟨z_mem 1080 (by decide +kernel) (by decide +kernel), z_mem 52 (by decide +kernel) (by decide +kernel), ⟨by decide +kernel, by decide +kernel⟩, by decide +kernel, by decide +kernel⟩
theorem eX10_nextTile : Cond.instanceMethod yX10_nextTile ∈ z_gw := z_mem 1079 (by decide +kernel) (by decide +kernel)
theorem vX10_nextTile : Cond.selects RX10 yX10_nextTile yX10_nextTile ∈ z_gw := z_mem 37 (by decide +kernel) (by decide +kernel)
abbrev mX10_hail : z_M := (yX10_hail, cX10_hail, 12, (some .int), 4, 102, 0, 0)
theorem oX10_hail : z_MOk mX10_hail 5 := ⟨z_mem 1084 (by decide +kernel) (by decide +kernel), z_mem 52 (by decide +kernel) (by decide +kernel), ⟨by decide +kernel, by decide +kernel⟩, by decide +kernel, by decide +kernel⟩
theorem eX10_hail : Cond.instanceMethod yX10_hail ∈ z_gw := z_mem 1082 (by decide +kernel) (by decide +kernel)
theorem vX10_hail : Cond.selects RX10 yX10_hail yX10_hail ∈ z_gw := z_mem 1083 (by decide +kernel) (by decide +kernel)
abbrev mX10_saw : z_M := (yX10_saw, cX10_saw, 5, (some .int), 2, 46, 0, 0)
theorem oX10_saw : z_MOk mX10_saw 4 := ⟨z_mem 1089 (by decide +kernel) (by decide +kernel), z_mem 52 (by decide +kernel) (by decide +kernel), ⟨by decide +kernel, by decide +kernel⟩, by decide +kernel, by decide +kernel⟩
theorem eX10_saw : Cond.instanceMethod yX10_saw ∈ z_gw := z_mem 1087 (by decide +kernel) (by decide +kernel)
theorem vX10_saw : Cond.selects RX10 yX10_saw yX10_saw ∈ z_gw := z_mem 1088 (by decide +kernel) (by decide +kernel)
abbrev mX10_forget : z_M := (yX10_forget, cX10_forget, 2, (some .int), 0, 0, 0, 0)
theorem oX10_forget : z_MOk mX10_forget 0 := ⟨z_mem 1093 (by decide +kernel) (by decide +kernel), z_mem 52 (by decide +kernel) (by decide +kernel), ⟨by decide +kernel, by decide +kernel⟩, by decide +kernel, by decide +kernel⟩
theorem eX10_forget : Cond.instanceMethod yX10_forget ∈ z_gw := z_mem 1091 (by decide +kernel) (by decide +kernel)
theorem vX10_forget : Cond.selects RX10 yX10_forget yX10_forget ∈ z_gw := z_mem 1092 (by decide +kernel) (by decide +kernel)
abbrev mX10_suspects : z_M := (yX10_suspects, cX10_suspects, 3, (some .int), 5, 125, 0, 0)
theorem oX10_suspects : z_MOk mX10_suspects 0 := ⟨z_mem 1097 (by decide +kernel) (by decide +kernel), z_mem 52 (by decide +kernel) (by decide +kernel), ⟨by decide +kernel, by decide +kernel⟩, by decide +kernel, by decide +kernel⟩
theorem eX10_suspects : Cond.instanceMethod yX10_suspects ∈ z_gw := z_mem 1095 (by decide +kernel) (by decide +kernel)
theorem vX10_suspects : Cond.selects RX10 yX10_suspects yX10_suspects ∈ z_gw := z_mem 1096 (by decide +kernel) (by decide +kernel)
abbrev mX10_mayBe : z_M := (yX10_mayBe, cX10_mayBe, 2, (some .boolean), 2, 47, 0, 0)
theorem oX10_mayBe : z_MOk mX10_mayBe 1 := ⟨z_mem 1101 (by decide +kernel) (by decide +kernel), z_mem 52 (by decide +kernel) (by decide +kernel), ⟨by decide +kernel, by decide +kernel⟩, by decide +kernel, by decide +kernel⟩
theorem eX10_mayBe : Cond.instanceMethod yX10_mayBe ∈ z_gw := z_mem 1100 (by decide +kernel) (by decide +kernel)
theorem vX10_mayBe : Cond.selects RX10 yX10_mayBe yX10_mayBe ∈ z_gw := z_mem 38 (by decide +kernel) (by decide +kernel)
abbrev mX10_layBroken : z_M := (yX10_layBroken, cX10_layBroken, 2, none, 1, 25, 0, 0)
theorem oX10_layBroken : z_MOk mX10_layBroken 1 := ⟨z_mem 1105 (by decide +kernel) (by decide +kernel), z_mem 52 (by decide +kernel) (by decide +kernel), ⟨by decide +kernel, by decide +kernel⟩, by decide +kernel, by decide +kernel⟩
theorem eX10_layBroken : Cond.instanceMethod yX10_layBroken ∈ z_gw := z_mem 1104 (by decide +kernel) (by decide +kernel)
theorem vX10_layBroken : Cond.selects RX10 yX10_layBroken yX10_layBroken ∈ z_gw := z_mem 39 (by decide +kernel) (by decide +kernel)
abbrev mX10_isSo : z_M := (yX10_isSo, cX10_isSo, 4, (some .boolean), 4, 102, 0, 0)
theorem oX10_isSo : z_MOk mX10_isSo 1 := ⟨z_mem 1109 (by decide +kernel) (by decide +kernel), z_mem 52 (by decide +kernel) (by decide +kernel), ⟨by decide +kernel, by decide +kernel⟩, by decide +kernel, by decide +kernel⟩
theorem eX10_isSo : Cond.instanceMethod yX10_isSo ∈ z_gw := z_mem 1108 (by decide +kernel) (by decide +kernel)
theorem vX10_isSo : Cond.selects RX10 yX10_isSo yX10_isSo ∈ z_gw := z_mem 40 (by decide +kernel) (by decide +kernel)
abbrev mX10_glasses : z_M := (yX10_glasses, cX10_glasses, 7, (some .int), 5, 125, 0, 0)
theorem oX10_glasses : z_MOk mX10_glasses 2 := ⟨z_mem 1113 (by decide +kernel) (by decide +kernel), z_mem 52 (by decide +kernel) (by decide +kernel), ⟨by decide +kernel, by decide +kernel⟩, by decide +kernel, by decide +kernel⟩
theorem eX10_glasses : Cond.instanceMethod yX10_glasses ∈ z_gw := z_mem 1111 (by decide +kernel) (by decide +kernel)
theorem vX10_glasses : Cond.selects RX10 yX10_glasses yX10_glasses ∈ z_gw := z_mem 1112 (by decide +kernel) (by decide +kernel)
abbrev mX10_look : z_M := (yX10_look, cX10_look, 8, (some .int), 6, 147, 0, 0)
theorem oX10_look : z_MOk mX10_look 0 := ⟨z_mem 1117 (by decide +kernel) (by decide +kernel), z_mem 52 (by decide +kernel) (by decide +kernel), ⟨by decide +kernel, by decide +kernel⟩, by decide +kernel, by decide +kernel⟩
theorem eX10_look : Cond.instanceMethod yX10_look ∈ z_gw := z_mem 1115 (by decide +kernel) (by decide +kernel)
theorem vX10_look : Cond.selects RX10 yX10_look yX10_look ∈ z_gw := z_mem 1116 (by decide +kernel) (by decide +kernel)
abbrev mX10_mark : z_M := (yX10_mark, cX10_mark, 7, (some .int), 3, 66, 0, 0)
theorem oX10_mark : z_MOk mX10_mark 3 := ⟨z_mem 1122 (by decide +kernel) (by decide +kernel), z_mem 52 (by decide +kernel) (by decide +kernel), ⟨by decide +kernel, by decide +kernel⟩, by decide +kernel, by decide +kernel⟩
theorem eX10_mark : Cond.instanceMethod yX10_mark ∈ z_gw := z_mem 1120 (by decide +kernel) (by decide +kernel)
theorem vX10_mark : Cond.selects RX10 yX10_mark yX10_mark ∈ z_gw := z_mem 1121 (by decide +kernel) (by decide +kernel)
abbrev mX10_keep : z_M := (yX10_keep, cX10_keep, 2, (some .int), 1, 25, 0, 0)
theorem oX10_keep : z_MOk mX10_keep 1 := ⟨z_mem 1132 (by decide +kernel) (by decide +kernel), z_mem 52 (by decide +kernel) (by decide +kernel), ⟨by decide +kernel, by decide +kernel⟩, by decide +kernel, by decide +kernel⟩
theorem eX10_keep : Cond.instanceMethod yX10_keep ∈ z_gw := z_mem 1130 (by decide +kernel) (by decide +kernel)
theorem vX10_keep : Cond.selects RX10 yX10_keep yX10_keep ∈ z_gw := z_mem 1131 (by decide +kernel) (by decide +kernel)
abbrev mX10_back : z_M := (yX10_back, cX10_back, 2, (some .int), 1, 25, 0, 0)
theorem oX10_back : z_MOk mX10_back 1 := ⟨z_mem 1136 (by decide +kernel) (by decide +kernel), z_mem 52 (by decide +kernel) (by decide +kernel), ⟨by decide +kernel, by decide +kernel⟩, by decide +kernel, by decide +kernel⟩
theorem eX10_back : Cond.instanceMethod yX10_back ∈ z_gw := z_mem 1134 (by decide +kernel) (by decide +kernel)
theorem vX10_back : Cond.selects RX10 yX10_back yX10_back ∈ z_gw := z_mem 1135 (by decide +kernel) (by decide +kernel)
abbrev mX10_count : z_M := (yX10_count, cX10_count, 2, (some .int), 0, 0, 0, 0)
theorem oX10_count : z_MOk mX10_count 1 := ⟨z_mem 1140 (by decide +kernel) (by decide +kernel), z_mem 52 (by decide +kernel) (by decide +kernel), ⟨by decide +kernel, by decide +kernel⟩, by decide +kernel, by decide +kernel⟩
theorem eX10_count : Cond.instanceMethod yX10_count ∈ z_gw := z_mem 1138 (by decide +kernel) (by decide +kernel)
theorem vX10_count : Cond.selects RX10 yX10_count yX10_count ∈ z_gw := z_mem 1139 (by decide +kernel) (by decide +kernel)
abbrev mX10_trace : z_M := (yX10_trace, cX10_trace, 1, (some .long), 0, 0, 0, 0)
theorem oX10_trace : z_MOk mX10_trace 0 := ⟨z_mem 1144 (by decide +kernel) (by decide +kernel), z_mem 52 (by decide +kernel) (by decide +kernel), ⟨by decide +kernel, by decide +kernel⟩, by decide +kernel, by decide +kernel⟩
theorem eX10_trace : Cond.instanceMethod yX10_trace ∈ z_gw := z_mem 1142 (by decide +kernel) (by decide +kernel)
theorem vX10_trace : Cond.selects RX10 yX10_trace yX10_trace ∈ z_gw := z_mem 1143 (by decide +kernel) (by decide +kernel)
theorem l_RX9_11 : Cond.methodLinkNest RX9 11 yX4_init RX9 ∈ z_nest := by decide +kernel
theorem l_RX9_18 : Cond.methodLinkNest RX9 18 yX5_init RX9 ∈ z_nest := by decide +kernel
theorem l_RX9_25 : Cond.methodLinkNest RX9 25 yX1_init RX9 ∈ z_nest := by decide +kernel
theorem l_RX9_32 : Cond.methodLinkNest RX9 32 yX7_init RX9 ∈ z_nest := by decide +kernel
theorem l_RX9_39 : Cond.methodLinkNest RX9 39 yX8_init RX9 ∈ z_nest := by decide +kernel
theorem l_RX9_52 : Cond.methodLink RX9 52 yX3_init ∈ z_gw := z_mem 277 (by decide +kernel) (by decide +kernel)
theorem l_RX9_57 : Cond.methodLink RX9 57 yX6_init ∈ z_gw := z_mem 278 (by decide +kernel) (by decide +kernel)
theorem l_RX9_65 : Cond.methodLink RX9 65 yX6_restart ∈ z_gw := z_mem 279 (by decide +kernel) (by decide +kernel)
theorem l_RX9_69 : Cond.methodLink RX9 69 yX4_add ∈ z_gw := z_mem 316 (by decide +kernel) (by decide +kernel)
theorem l_RX9_77 : Cond.methodLink RX9 77 yX4_readInto ∈ z_gw := z_mem 328 (by decide +kernel) (by decide +kernel)
theorem l_RX9_87 : Cond.methodLink RX9 87 yX5_paneAt ∈ z_gw := z_mem 385 (by decide +kernel) (by decide +kernel)
theorem l_RX9_95 : Cond.methodLink RX9 95 yX5_isBroken ∈ z_gw := z_mem 389 (by decide +kernel) (by decide +kernel)
theorem l_RX9_107 : Cond.methodLink RX9 107 yX5_letsThrough ∈ z_gw := z_mem 393 (by decide +kernel) (by decide +kernel)
theorem l_RX9_111 : Cond.methodLink RX9 111 yX9_isSheet ∈ z_gw := z_mem 406 (by decide +kernel) (by decide +kernel)
theorem l_RX9_117 : Cond.methodLink RX9 117 yX5_paneBehind ∈ z_gw := z_mem 410 (by decide +kernel) (by decide +kernel)
theorem l_RX9_120 : Cond.methodLink RX9 120 yX5_roomBefore ∈ z_gw := z_mem 418 (by decide +kernel) (by decide +kernel)
theorem l_RX9_123 : Cond.methodLink RX9 123 yX6_advance ∈ z_gw := z_mem 428 (by decide +kernel) (by decide +kernel)
theorem l_RX9_127 : Cond.methodLink RX9 127 yJ6_bitCount_0f7a4 ∈ z_gw := z_mem 451 (by decide +kernel) (by decide +kernel)
theorem l_RX9_141 : Cond.methodLink RX9 141 yX5_lostAtFirstHour ∈ z_gw := z_mem 460 (by decide +kernel) (by decide +kernel)
theorem l_RX9_148 : Cond.methodLink RX9 148 yX6_retreat ∈ z_gw := z_mem 471 (by decide +kernel) (by decide +kernel)
theorem l_RX9_151 : Cond.methodLink RX9 151 yX5_box ∈ z_gw := z_mem 479 (by decide +kernel) (by decide +kernel)
theorem l_RX9_154 : Cond.methodLink RX9 154 yX0_leads ∈ z_gw := z_mem 483 (by decide +kernel) (by decide +kernel)
theorem l_RX9_160 : Cond.methodLink RX9 160 yX0_parts ∈ z_gw := z_mem 499 (by decide +kernel) (by decide +kernel)
theorem l_RX9_163 : Cond.methodLink RX9 163 yX0_greatestPart ∈ z_gw := z_mem 513 (by decide +kernel) (by decide +kernel)
theorem l_RX9_166 : Cond.methodLink RX9 166 yX9_isTile ∈ z_gw := z_mem 522 (by decide +kernel) (by decide +kernel)
theorem l_RX9_170 : Cond.methodLink RX9 170 yX9_isHour ∈ z_gw := z_mem 525 (by decide +kernel) (by decide +kernel)
theorem l_RX9_173 : Cond.methodLink RX9 173 yX9_numberOf ∈ z_gw := z_mem 528 (by decide +kernel) (by decide +kernel)
theorem l_RX9_176 : Cond.methodLink RX9 176 yX5_lightOf ∈ z_gw := z_mem 531 (by decide +kernel) (by decide +kernel)
theorem l_RX9_179 : Cond.methodLink RX9 179 yX9_isColour ∈ z_gw := z_mem 548 (by decide +kernel) (by decide +kernel)
theorem l_RX9_182 : Cond.methodLink RX9 182 yX1_seek ∈ z_gw := z_mem 559 (by decide +kernel) (by decide +kernel)
theorem l_RX9_199 : Cond.methodLink RX9 199 yX7_hoursFrom ∈ z_gw := z_mem 581 (by decide +kernel) (by decide +kernel)
theorem l_RX9_203 : Cond.methodLink RX9 203 yX7_tileAfter ∈ z_gw := z_mem 597 (by decide +kernel) (by decide +kernel)
theorem l_RX9_207 : Cond.methodLink RX9 207 yX0_bestPaint ∈ z_gw := z_mem 605 (by decide +kernel) (by decide +kernel)
theorem l_RX9_210 : Cond.methodLink RX9 210 yX0_leadsPainted ∈ z_gw := z_mem 611 (by decide +kernel) (by decide +kernel)
theorem l_RX9_214 : Cond.methodLink RX9 214 yX9_clearOfHundred ∈ z_gw := z_mem 619 (by decide +kernel) (by decide +kernel)
theorem l_RX9_217 : Cond.methodLink RX9 217 yX9_greatestDivisor ∈ z_gw := z_mem 625 (by decide +kernel) (by decide +kernel)
theorem l_RX9_220 : Cond.methodLink RX9 220 yX8_add ∈ z_gw := z_mem 632 (by decide +kernel) (by decide +kernel)
theorem l_RX9_222 : Cond.methodLink RX9 222 yX8_suspected ∈ z_gw := z_mem 644 (by decide +kernel) (by decide +kernel)
theorem l_RX9_225 : Cond.methodLink RX9 225 yX8_glassesOf ∈ z_gw := z_mem 663 (by decide +kernel) (by decide +kernel)
theorem l_RX9_229 : Cond.methodLink RX9 229 yX8_bestPlace ∈ z_gw := z_mem 671 (by decide +kernel) (by decide +kernel)
theorem l_RX9_233 : Cond.methodLink RX9 233 yX9_asPane ∈ z_gw := z_mem 693 (by decide +kernel) (by decide +kernel)
theorem l_RX9_236 : Cond.methodLink RX9 236 yX9_asSaint ∈ z_gw := z_mem 697 (by decide +kernel) (by decide +kernel)
theorem l_RX9_239 : Cond.methodLink RX9 239 yX9_asDevil ∈ z_gw := z_mem 702 (by decide +kernel) (by decide +kernel)
theorem l_RX9_242 : Cond.methodLink RX9 242 yX9_asHalo ∈ z_gw := z_mem 707 (by decide +kernel) (by decide +kernel)
theorem l_RX9_245 : Cond.methodLink RX9 245 yX9_asTail ∈ z_gw := z_mem 712 (by decide +kernel) (by decide +kernel)
theorem l_RX9_248 : Cond.methodLink RX9 248 yX9_asLead ∈ z_gw := z_mem 717 (by decide +kernel) (by decide +kernel)
theorem l_RX9_251 : Cond.methodLink RX9 251 yX6_become ∈ z_gw := z_mem 726 (by decide +kernel) (by decide +kernel)
theorem l_RX9_276 : Cond.methodLink RX9 276 yX5_paneByItself ∈ z_gw := z_mem 623 (by decide +kernel) (by decide +kernel)
theorem l_RX9_279 : Cond.methodLink RX9 279 yX5_paneByMirror ∈ z_gw := z_mem 624 (by decide +kernel) (by decide +kernel)
theorem l_RX0_9 : Cond.methodLink RX0 9 yX5_hasPane ∈ z_gw := z_mem 486 (by decide +kernel) (by decide +kernel)
theorem l_RX0_15 : Cond.methodLink RX0 15 yX5_colourNow ∈ z_gw := z_mem 491 (by decide +kernel) (by decide +kernel)
theorem l_RX0_19 : Cond.methodLink RX0 19 yX0_unlikeBeside ∈ z_gw := z_mem 492 (by decide +kernel) (by decide +kernel)
theorem l_RX0_25 : Cond.methodLink RX0 25 yX0_leads ∈ z_gw := z_mem 614 (by decide +kernel) (by decide +kernel)
theorem l_RX0_29 : Cond.methodLink RX0 29 yX0_addedBy ∈ z_gw := z_mem 608 (by decide +kernel) (by decide +kernel)
theorem l_RX0_32 : Cond.methodLink RX0 32 yX5_paneAt ∈ z_gw := z_mem 495 (by decide +kernel) (by decide +kernel)
theorem l_RX0_36 : Cond.methodLink RX0 36 yX0_unlike ∈ z_gw := z_mem 496 (by decide +kernel) (by decide +kernel)
theorem l_RX0_39 : Cond.methodLink RX0 39 yX0_partOf ∈ z_gw := z_mem 502 (by decide +kernel) (by decide +kernel)
theorem l_RX0_43 : Cond.methodLink RX0 43 yJ6_bitCount_0f7a4 ∈ z_gw := z_mem 516 (by decide +kernel) (by decide +kernel)
theorem l_RX0_48 : Cond.methodLink RX0 48 yJ9_max_7cf53 ∈ z_gw := z_mem 517 (by decide +kernel) (by decide +kernel)
theorem l_RX0_53 : Cond.methodLink RX0 53 yX0_panesOf ∈ z_gw := z_mem 505 (by decide +kernel) (by decide +kernel)
theorem l_RX0_56 : Cond.methodLink RX0 56 yX0_beside ∈ z_gw := z_mem 508 (by decide +kernel) (by decide +kernel)
theorem l_RX1_7 : Cond.methodLink RX1 7 yX5_paneByItself ∈ z_gw := z_mem 563 (by decide +kernel) (by decide +kernel)
theorem l_RX1_13 : Cond.methodLink RX1 13 yX5_paneByMirror ∈ z_gw := z_mem 564 (by decide +kernel) (by decide +kernel)
theorem l_RX1_16 : Cond.methodLink RX1 16 yX5_roomBefore ∈ z_gw := z_mem 565 (by decide +kernel) (by decide +kernel)
theorem l_RX1_20 : Cond.methodLink RX1 20 yX5_box ∈ z_gw := z_mem 566 (by decide +kernel) (by decide +kernel)
theorem l_RX1_30 : Cond.methodLink RX1 30 yJ6_bitCount_0f7a4 ∈ z_gw := z_mem 567 (by decide +kernel) (by decide +kernel)
theorem l_RX1_35 : Cond.methodLink RX1 35 yX5_letsThrough ∈ z_gw := z_mem 568 (by decide +kernel) (by decide +kernel)
theorem l_RX1_48 : Cond.methodLink RX1 48 yX1_seekLatter ∈ z_gw := z_mem 569 (by decide +kernel) (by decide +kernel)
theorem l_RX1_52 : Cond.methodLink RX1 52 yX1_offer ∈ z_gw := z_mem 573 (by decide +kernel) (by decide +kernel)
theorem l_RX3_18 : Cond.methodLink RX3 18 yX3_restart ∈ z_gw := z_mem 163 (by decide +kernel) (by decide +kernel)
theorem l_RX3_28 : Cond.methodLink RX3 28 yJ7_fill_53178 ∈ z_gw := z_mem 167 (by decide +kernel) (by decide +kernel)
theorem l_RX4_19 : Cond.methodLink RX4 19 yX3_restart ∈ z_gw := z_mem 332 (by decide +kernel) (by decide +kernel)
theorem l_RX4_34 : Cond.methodLink RX4 34 yX4_step ∈ z_gw := z_mem 333 (by decide +kernel) (by decide +kernel)
theorem l_RX4_40 : Cond.methodLink RX4 40 yX4_item ∈ z_gw := z_mem 345 (by decide +kernel) (by decide +kernel)
theorem l_RX4_50 : Cond.methodLink RX4 50 yX4_size ∈ z_gw := z_mem 349 (by decide +kernel) (by decide +kernel)
theorem l_RX4_54 : Cond.methodLink RX4 54 yX4_glass ∈ z_gw := z_mem 361 (by decide +kernel) (by decide +kernel)
theorem l_RX4_60 : Cond.methodLink RX4 60 yX4_sheetColour ∈ z_gw := z_mem 365 (by decide +kernel) (by decide +kernel)
theorem l_RX4_63 : Cond.methodLink RX4 63 yX4_mirror ∈ z_gw := z_mem 373 (by decide +kernel) (by decide +kernel)
theorem l_RX4_66 : Cond.methodLink RX4 66 yX4_season ∈ z_gw := z_mem 377 (by decide +kernel) (by decide +kernel)
theorem l_RX4_69 : Cond.methodLink RX4 69 yX4_number ∈ z_gw := z_mem 353 (by decide +kernel) (by decide +kernel)
theorem l_RX4_79 : Cond.methodLink RX4 79 yX4_stop ∈ z_gw := z_mem 357 (by decide +kernel) (by decide +kernel)
theorem l_RX4_85 : Cond.methodLink RX4 85 yX3_addSheet ∈ z_gw := z_mem 369 (by decide +kernel) (by decide +kernel)
theorem l_RX4_93 : Cond.methodLink RX4 93 yX4_letters ∈ z_gw := z_mem 337 (by decide +kernel) (by decide +kernel)
theorem l_RX4_96 : Cond.methodLink RX4 96 yX4_digits ∈ z_gw := z_mem 341 (by decide +kernel) (by decide +kernel)
theorem l_RX5_11 : Cond.methodLink RX5 11 yX6_init ∈ z_gw := z_mem 106 (by decide +kernel) (by decide +kernel)
theorem l_RX5_20 : Cond.methodLink RX5 20 yX3_init ∈ z_gw := z_mem 159 (by decide +kernel) (by decide +kernel)
theorem l_RX5_32 : Cond.methodLink RX5 32 yX5_paneAt ∈ z_gw := z_mem 490 (by decide +kernel) (by decide +kernel)
theorem l_RX5_45 : Cond.methodLink RX5 45 yX5_isBroken ∈ z_gw := z_mem 401 (by decide +kernel) (by decide +kernel)
theorem l_RX5_53 : Cond.methodLink RX5 53 yX5_colourNow ∈ z_gw := z_mem 397 (by decide +kernel) (by decide +kernel)
theorem l_RX5_66 : Cond.methodLink RX5 66 yJ6_bitCount_0f7a4 ∈ z_gw := z_mem 422 (by decide +kernel) (by decide +kernel)
theorem l_RX5_74 : Cond.methodLink RX5 74 yJ9_max_7cf53 ∈ z_gw := z_mem 464 (by decide +kernel) (by decide +kernel)
theorem l_RX5_82 : Cond.methodLink RX5 82 yX5_paneByItself ∈ z_gw := z_mem 535 (by decide +kernel) (by decide +kernel)
theorem l_RX5_85 : Cond.methodLink RX5 85 yX5_letsThrough ∈ z_gw := z_mem 539 (by decide +kernel) (by decide +kernel)
theorem l_RX5_88 : Cond.methodLink RX5 88 yX5_paneByMirror ∈ z_gw := z_mem 540 (by decide +kernel) (by decide +kernel)
theorem l_RX6_15 : Cond.methodLinkNest RX6 15 yX2_init RX9 ∈ z_nest := by decide +kernel
theorem l_RX6_28 : Cond.methodLink RX6 28 yJ7_fill_53178 ∈ z_gw := z_mem 283 (by decide +kernel) (by decide +kernel)
theorem l_RX6_47 : Cond.methodLink RX6 47 yX6_loseOldest ∈ z_gw := z_mem 432 (by decide +kernel) (by decide +kernel)
theorem l_RX6_50 : Cond.methodLink RX6 50 yX2_become ∈ z_gw := z_mem 436 (by decide +kernel) (by decide +kernel)
theorem l_RX7_15 : Cond.methodLink RX7 15 yX5_lightOf ∈ z_gw := z_mem 585 (by decide +kernel) (by decide +kernel)
theorem l_RX7_21 : Cond.methodLink RX7 21 yX7_onward ∈ z_gw := z_mem 586 (by decide +kernel) (by decide +kernel)
theorem l_RX7_24 : Cond.methodLink RX7 24 yX7_better ∈ z_gw := z_mem 590 (by decide +kernel) (by decide +kernel)
theorem l_RX7_28 : Cond.methodLink RX7 28 yJ9_min_7cf53 ∈ z_gw := z_mem 594 (by decide +kernel) (by decide +kernel)
theorem l_RX8_22 : Cond.methodLink RX8 22 yX5_lightIf ∈ z_gw := z_mem 652 (by decide +kernel) (by decide +kernel)
theorem l_RX8_28 : Cond.methodLink RX8 28 yX8_agrees ∈ z_gw := z_mem 648 (by decide +kernel) (by decide +kernel)
theorem l_RX8_33 : Cond.methodLink RX8 33 yX5_hasPane ∈ z_gw := z_mem 657 (by decide +kernel) (by decide +kernel)
theorem l_RX8_37 : Cond.methodLink RX8 37 yX5_isBroken ∈ z_gw := z_mem 658 (by decide +kernel) (by decide +kernel)
theorem l_RX8_64 : Cond.methodLink RX8 64 yX8_mostAlike ∈ z_gw := z_mem 675 (by decide +kernel) (by decide +kernel)
theorem l_RX8_68 : Cond.methodLink RX8 68 yJ6_bitCount_0f7a4 ∈ z_gw := z_mem 679 (by decide +kernel) (by decide +kernel)
theorem l_RX8_74 : Cond.methodLink RX8 74 yX5_lightOf ∈ z_gw := z_mem 680 (by decide +kernel) (by decide +kernel)
theorem l_RX8_78 : Cond.methodLink RX8 78 yX5_paneByItself ∈ z_gw := z_mem 681 (by decide +kernel) (by decide +kernel)
theorem l_RX8_81 : Cond.methodLink RX8 81 yX8_bitOf ∈ z_gw := z_mem 682 (by decide +kernel) (by decide +kernel)
theorem l_RX8_84 : Cond.methodLink RX8 84 yX5_paneByMirror ∈ z_gw := z_mem 686 (by decide +kernel) (by decide +kernel)
theorem l_RX8_87 : Cond.methodLink RX8 87 yJ9_max_7cf53 ∈ z_gw := z_mem 687 (by decide +kernel) (by decide +kernel)
theorem l_RL_9 : Cond.methodLink RL 9 yX9_init ∈ z_gw := z_mem 59 (by decide +kernel) (by decide +kernel)
theorem l_RL_12 : Cond.methodLink RL 12 yX10_init ∈ z_gw := z_mem 744 (by decide +kernel) (by decide +kernel)
theorem l_RL_13 : Cond.methodLink RL 13 yX9_type ∈ z_gw := z_mem 312 (by decide +kernel) (by decide +kernel)
theorem l_RL_17 : Cond.methodLink RL 17 yX10_type ∈ z_gw := z_mem 856 (by decide +kernel) (by decide +kernel)
theorem l_RL_18 : Cond.methodLink RL 18 yX9_clear ∈ z_gw := z_mem 320 (by decide +kernel) (by decide +kernel)
theorem l_RL_22 : Cond.methodLink RL 22 yX10_clear ∈ z_gw := z_mem 864 (by decide +kernel) (by decide +kernel)
theorem l_RL_23 : Cond.methodLink RL 23 yX9_window ∈ z_gw := z_mem 324 (by decide +kernel) (by decide +kernel)
theorem l_RL_26 : Cond.methodLink RL 26 yX10_window ∈ z_gw := z_mem 868 (by decide +kernel) (by decide +kernel)
theorem l_RL_27 : Cond.methodLink RL 27 yX9_pane ∈ z_gw := z_mem 381 (by decide +kernel) (by decide +kernel)
theorem l_RL_31 : Cond.methodLink RL 31 yX10_pane ∈ z_gw := z_mem 919 (by decide +kernel) (by decide +kernel)
theorem l_RL_32 : Cond.methodLink RL 32 yX9_sheet ∈ z_gw := z_mem 402 (by decide +kernel) (by decide +kernel)
theorem l_RL_36 : Cond.methodLink RL 36 yX10_sheet ∈ z_gw := z_mem 942 (by decide +kernel) (by decide +kernel)
theorem l_RL_37 : Cond.methodLink RL 37 yX9_lays ∈ z_gw := z_mem 414 (by decide +kernel) (by decide +kernel)
theorem l_RL_40 : Cond.methodLink RL 40 yX10_lays ∈ z_gw := z_mem 950 (by decide +kernel) (by decide +kernel)
theorem l_RL_41 : Cond.methodLink RL 41 yX9_takes ∈ z_gw := z_mem 443 (by decide +kernel) (by decide +kernel)
theorem l_RL_44 : Cond.methodLink RL 44 yX10_takes ∈ z_gw := z_mem 961 (by decide +kernel) (by decide +kernel)
theorem l_RL_45 : Cond.methodLink RL 45 yX9_breaks ∈ z_gw := z_mem 447 (by decide +kernel) (by decide +kernel)
theorem l_RL_48 : Cond.methodLink RL 48 yX10_breaks ∈ z_gw := z_mem 965 (by decide +kernel) (by decide +kernel)
theorem l_RL_49 : Cond.methodLink RL 49 yX9_mends ∈ z_gw := z_mem 452 (by decide +kernel) (by decide +kernel)
theorem l_RL_52 : Cond.methodLink RL 52 yX10_mends ∈ z_gw := z_mem 972 (by decide +kernel) (by decide +kernel)
theorem l_RL_53 : Cond.methodLink RL 53 yX9_moves ∈ z_gw := z_mem 456 (by decide +kernel) (by decide +kernel)
theorem l_RL_56 : Cond.methodLink RL 56 yX10_moves ∈ z_gw := z_mem 976 (by decide +kernel) (by decide +kernel)
theorem l_RL_57 : Cond.methodLink RL 57 yX9_undo ∈ z_gw := z_mem 467 (by decide +kernel) (by decide +kernel)
theorem l_RL_60 : Cond.methodLink RL 60 yX10_undo ∈ z_gw := z_mem 982 (by decide +kernel) (by decide +kernel)
theorem l_RL_61 : Cond.methodLink RL 61 yX9_now ∈ z_gw := z_mem 475 (by decide +kernel) (by decide +kernel)
theorem l_RL_64 : Cond.methodLink RL 64 yX10_now ∈ z_gw := z_mem 986 (by decide +kernel) (by decide +kernel)
theorem l_RL_65 : Cond.methodLink RL 65 yX9_light ∈ z_gw := z_mem 518 (by decide +kernel) (by decide +kernel)
theorem l_RL_68 : Cond.methodLink RL 68 yX10_light ∈ z_gw := z_mem 1019 (by decide +kernel) (by decide +kernel)
theorem l_RL_69 : Cond.methodLink RL 69 yX9_lit ∈ z_gw := z_mem 544 (by decide +kernel) (by decide +kernel)
theorem l_RL_72 : Cond.methodLink RL 72 yX10_lit ∈ z_gw := z_mem 1040 (by decide +kernel) (by decide +kernel)
theorem l_RL_73 : Cond.methodLink RL 73 yX9_when ∈ z_gw := z_mem 551 (by decide +kernel) (by decide +kernel)
theorem l_RL_76 : Cond.methodLink RL 76 yX10_when ∈ z_gw := z_mem 1051 (by decide +kernel) (by decide +kernel)
theorem l_RL_77 : Cond.methodLink RL 77 yX9_mix ∈ z_gw := z_mem 555 (by decide +kernel) (by decide +kernel)
theorem l_RL_81 : Cond.methodLink RL 81 yX10_mix ∈ z_gw := z_mem 1055 (by decide +kernel) (by decide +kernel)
theorem l_RL_82 : Cond.methodLink RL 82 yX9_child ∈ z_gw := z_mem 577 (by decide +kernel) (by decide +kernel)
theorem l_RL_85 : Cond.methodLink RL 85 yX10_child ∈ z_gw := z_mem 1068 (by decide +kernel) (by decide +kernel)
theorem l_RL_86 : Cond.methodLink RL 86 yX9_paint ∈ z_gw := z_mem 601 (by decide +kernel) (by decide +kernel)
theorem l_RL_89 : Cond.methodLink RL 89 yX10_paint ∈ z_gw := z_mem 1014 (by decide +kernel) (by decide +kernel)
theorem l_RL_90 : Cond.methodLink RL 90 yX9_hail ∈ z_gw := z_mem 615 (by decide +kernel) (by decide +kernel)
theorem l_RL_93 : Cond.methodLink RL 93 yX10_hail ∈ z_gw := z_mem 1081 (by decide +kernel) (by decide +kernel)
theorem l_RL_94 : Cond.methodLink RL 94 yX9_saw ∈ z_gw := z_mem 628 (by decide +kernel) (by decide +kernel)
theorem l_RL_98 : Cond.methodLink RL 98 yX10_saw ∈ z_gw := z_mem 1086 (by decide +kernel) (by decide +kernel)
theorem l_RL_99 : Cond.methodLink RL 99 yX9_forget ∈ z_gw := z_mem 636 (by decide +kernel) (by decide +kernel)
theorem l_RL_102 : Cond.methodLink RL 102 yX10_forget ∈ z_gw := z_mem 1090 (by decide +kernel) (by decide +kernel)
theorem l_RL_103 : Cond.methodLink RL 103 yX9_suspects ∈ z_gw := z_mem 640 (by decide +kernel) (by decide +kernel)
theorem l_RL_106 : Cond.methodLink RL 106 yX10_suspects ∈ z_gw := z_mem 1094 (by decide +kernel) (by decide +kernel)
theorem l_RL_107 : Cond.methodLink RL 107 yX9_glasses ∈ z_gw := z_mem 659 (by decide +kernel) (by decide +kernel)
theorem l_RL_110 : Cond.methodLink RL 110 yX10_glasses ∈ z_gw := z_mem 1110 (by decide +kernel) (by decide +kernel)
theorem l_RL_111 : Cond.methodLink RL 111 yX9_look ∈ z_gw := z_mem 667 (by decide +kernel) (by decide +kernel)
theorem l_RL_114 : Cond.methodLink RL 114 yX10_look ∈ z_gw := z_mem 1114 (by decide +kernel) (by decide +kernel)
theorem l_RL_115 : Cond.methodLink RL 115 yX9_mark ∈ z_gw := z_mem 688 (by decide +kernel) (by decide +kernel)
theorem l_RL_118 : Cond.methodLink RL 118 yX10_mark ∈ z_gw := z_mem 1119 (by decide +kernel) (by decide +kernel)
theorem l_RL_119 : Cond.methodLink RL 119 yX9_keep ∈ z_gw := z_mem 722 (by decide +kernel) (by decide +kernel)
theorem l_RL_122 : Cond.methodLink RL 122 yX10_keep ∈ z_gw := z_mem 1129 (by decide +kernel) (by decide +kernel)
theorem l_RL_123 : Cond.methodLink RL 123 yX9_back ∈ z_gw := z_mem 730 (by decide +kernel) (by decide +kernel)
theorem l_RL_126 : Cond.methodLink RL 126 yX10_back ∈ z_gw := z_mem 1133 (by decide +kernel) (by decide +kernel)
theorem l_RL_127 : Cond.methodLink RL 127 yX9_count ∈ z_gw := z_mem 734 (by decide +kernel) (by decide +kernel)
theorem l_RL_130 : Cond.methodLink RL 130 yX10_count ∈ z_gw := z_mem 1137 (by decide +kernel) (by decide +kernel)
theorem l_RL_131 : Cond.methodLink RL 131 yX9_trace ∈ z_gw := z_mem 738 (by decide +kernel) (by decide +kernel)
theorem l_RL_135 : Cond.methodLink RL 135 yX10_trace ∈ z_gw := z_mem 1141 (by decide +kernel) (by decide +kernel)
theorem l_RX10_69 : Cond.methodLink RX10 69 yX10_begins ∈ z_gw := z_mem 748 (by decide +kernel) (by decide +kernel)
theorem l_RX10_81 : Cond.methodLink RX10 81 yX10_in ∈ z_gw := z_mem 861 (by decide +kernel) (by decide +kernel)
theorem l_RX10_111 : Cond.methodLink RX10 111 yX10_isLetter ∈ z_gw := z_mem 876 (by decide +kernel) (by decide +kernel)
theorem l_RX10_115 : Cond.methodLink RX10 115 yX10_isFigure ∈ z_gw := z_mem 882 (by decide +kernel) (by decide +kernel)
theorem l_RX10_118 : Cond.methodLink RX10 118 yX10_step ∈ z_gw := z_mem 872 (by decide +kernel) (by decide +kernel)
theorem l_RX10_121 : Cond.methodLink RX10 121 yX10_number ∈ z_gw := z_mem 896 (by decide +kernel) (by decide +kernel)
theorem l_RX10_140 : Cond.methodLink RX10 140 yX10_readsWindow ∈ z_gw := z_mem 892 (by decide +kernel) (by decide +kernel)
theorem l_RX10_143 : Cond.methodLink RX10 143 yX10_readsPane ∈ z_gw := z_mem 900 (by decide +kernel) (by decide +kernel)
theorem l_RX10_146 : Cond.methodLink RX10 146 yX10_readsSheet ∈ z_gw := z_mem 904 (by decide +kernel) (by decide +kernel)
theorem l_RX10_149 : Cond.methodLink RX10 149 yX10_readsMirror ∈ z_gw := z_mem 908 (by decide +kernel) (by decide +kernel)
theorem l_RX10_152 : Cond.methodLink RX10 152 yX10_readsSeason ∈ z_gw := z_mem 912 (by decide +kernel) (by decide +kernel)
theorem l_RX10_155 : Cond.methodLink RX10 155 yX10_readsItem ∈ z_gw := z_mem 888 (by decide +kernel) (by decide +kernel)
theorem l_RX10_162 : Cond.methodLink RX10 162 yX10_copies ∈ z_gw := z_mem 916 (by decide +kernel) (by decide +kernel)
theorem l_RX10_172 : Cond.methodLink RX10 172 yX10_has ∈ z_gw := z_mem 935 (by decide +kernel) (by decide +kernel)
theorem l_RX10_175 : Cond.methodLink RX10 175 yX10_sheetsAt ∈ z_gw := z_mem 927 (by decide +kernel) (by decide +kernel)
theorem l_RX10_179 : Cond.methodLink RX10 179 yX10_through ∈ z_gw := z_mem 938 (by decide +kernel) (by decide +kernel)
theorem l_RX10_183 : Cond.methodLink RX10 183 yX10_isPane ∈ z_gw := z_mem 923 (by decide +kernel) (by decide +kernel)
theorem l_RX10_186 : Cond.methodLink RX10 186 yX10_paneAt ∈ z_gw := z_mem 1036 (by decide +kernel) (by decide +kernel)
theorem l_RX10_190 : Cond.methodLink RX10 190 yX10_lets ∈ z_gw := z_mem 931 (by decide +kernel) (by decide +kernel)
theorem l_RX10_193 : Cond.methodLink RX10 193 yX10_lightOn ∈ z_gw := z_mem 1032 (by decide +kernel) (by decide +kernel)
theorem l_RX10_197 : Cond.methodLink RX10 197 yX10_isSheet ∈ z_gw := z_mem 946 (by decide +kernel) (by decide +kernel)
theorem l_RX10_201 : Cond.methodLink RX10 201 yX10_bits ∈ z_gw := z_mem 954 (by decide +kernel) (by decide +kernel)
theorem l_RX10_204 : Cond.methodLink RX10 204 yX10_remember ∈ z_gw := z_mem 957 (by decide +kernel) (by decide +kernel)
theorem l_RX10_207 : Cond.methodLink RX10 207 yX10_breaksOn ∈ z_gw := z_mem 969 (by decide +kernel) (by decide +kernel)
theorem l_RX10_215 : Cond.methodLink RX10 215 yX10_unlike ∈ z_gw := z_mem 1002 (by decide +kernel) (by decide +kernel)
theorem l_RX10_219 : Cond.methodLink RX10 219 yX10_layColours ∈ z_gw := z_mem 994 (by decide +kernel) (by decide +kernel)
theorem l_RX10_222 : Cond.methodLink RX10 222 yX10_partFrom ∈ z_gw := z_mem 1010 (by decide +kernel) (by decide +kernel)
theorem l_RX10_225 : Cond.methodLink RX10 225 yX10_leads ∈ z_gw := z_mem 998 (by decide +kernel) (by decide +kernel)
theorem l_RX10_229 : Cond.methodLink RX10 229 yX10_leadsNow ∈ z_gw := z_mem 990 (by decide +kernel) (by decide +kernel)
theorem l_RX10_232 : Cond.methodLink RX10 232 yX10_parts ∈ z_gw := z_mem 1006 (by decide +kernel) (by decide +kernel)
theorem l_RX10_237 : Cond.methodLink RX10 237 yX10_isTile ∈ z_gw := z_mem 1023 (by decide +kernel) (by decide +kernel)
theorem l_RX10_240 : Cond.methodLink RX10 240 yX10_isHour ∈ z_gw := z_mem 1028 (by decide +kernel) (by decide +kernel)
theorem l_RX10_243 : Cond.methodLink RX10 243 yX10_isColour ∈ z_gw := z_mem 1044 (by decide +kernel) (by decide +kernel)
theorem l_RX10_246 : Cond.methodLink RX10 246 yX10_lightAt ∈ z_gw := z_mem 1047 (by decide +kernel) (by decide +kernel)
theorem l_RX10_252 : Cond.methodLink RX10 252 yX10_free ∈ z_gw := z_mem 1060 (by decide +kernel) (by decide +kernel)
theorem l_RX10_255 : Cond.methodLink RX10 255 yX10_letsNow ∈ z_gw := z_mem 1064 (by decide +kernel) (by decide +kernel)
theorem l_RX10_258 : Cond.methodLink RX10 258 yX10_nextTile ∈ z_gw := z_mem 1077 (by decide +kernel) (by decide +kernel)
theorem l_RX10_263 : Cond.methodLink RX10 263 yX10_layHours ∈ z_gw := z_mem 1073 (by decide +kernel) (by decide +kernel)
theorem l_RX10_269 : Cond.methodLink RX10 269 yX10_mayBe ∈ z_gw := z_mem 1098 (by decide +kernel) (by decide +kernel)
theorem l_RX10_272 : Cond.methodLink RX10 272 yX10_layBroken ∈ z_gw := z_mem 1102 (by decide +kernel) (by decide +kernel)
theorem l_RX10_275 : Cond.methodLink RX10 275 yX10_isSo ∈ z_gw := z_mem 1106 (by decide +kernel) (by decide +kernel)
theorem l_RX10_279 : Cond.methodLink RX10 279 yX10_suspects ∈ z_gw := z_mem 1118 (by decide +kernel) (by decide +kernel)
theorem l_RX9_3 : Cond.methodLink RX9 3 Lib.objectInit ∈ z_gw := z_mem 62 (by decide +kernel) (by decide +kernel)
theorem l_RX1_1 : Cond.methodLink RX1 1 Lib.objectInit ∈ z_gw := z_mem 229 (by decide +kernel) (by decide +kernel)
theorem l_RX2_3 : Cond.methodLink RX2 3 Lib.objectInit ∈ z_gw := z_mem 116 (by decide +kernel) (by decide +kernel)
theorem l_RX2_15 : Cond.methodLink RX2 15 arraycopyName ∈ z_gw := z_mem 440 (by decide +kernel) (by decide +kernel)
theorem l_RX3_3 : Cond.methodLink RX3 3 Lib.objectInit ∈ z_gw := z_mem 162 (by decide +kernel) (by decide +kernel)
theorem l_RX4_3 : Cond.methodLink RX4 3 Lib.objectInit ∈ z_gw := z_mem 70 (by decide +kernel) (by decide +kernel)
theorem l_RX5_3 : Cond.methodLink RX5 3 Lib.objectInit ∈ z_gw := z_mem 103 (by decide +kernel) (by decide +kernel)
theorem l_RX6_1 : Cond.methodLink RX6 1 Lib.objectInit ∈ z_gw := z_mem 109 (by decide +kernel) (by decide +kernel)
theorem l_RX7_3 : Cond.methodLink RX7 3 Lib.objectInit ∈ z_gw := z_mem 252 (by decide +kernel) (by decide +kernel)
theorem l_RX8_3 : Cond.methodLink RX8 3 Lib.objectInit ∈ z_gw := z_mem 262 (by decide +kernel) (by decide +kernel)
theorem l_RX10_1 : Cond.methodLink RX10 1 Lib.objectInit ∈ z_gw := z_mem 747 (by decide +kernel) (by decide +kernel)
theorem eObj : Cond.instanceMethod Lib.objectInit ∈ z_gw := z_mem 63 (by decide +kernel) (by decide +kernel)
theorem oObj : Cond.code Lib.objectInit ⟨#[0xb1]⟩ 1 none ∈ z_gw := z_mem 64 (by decide +kernel) (by decide +kernel)
theorem nCpy : Cond.native arraycopyName ∈ z_gw := z_mem 442 (by decide +kernel) (by decide +kernel)
theorem sCpy : Cond.static arraycopyName ∈ z_gw := z_mem 441 (by decide +kernel) (by decide +kernel)
theorem iCpy : Cond.initialized "java/lang/System" ∈ z_gw := z_mem 54 (by decide +kernel) (by decide +kernel)
theorem aInt : Cond.arrayClass .int ∈ z_gw := z_mem 97 (by decide +kernel) (by decide +kernel)
theorem aBoo : Cond.arrayClass .boolean ∈ z_gw := z_mem 855 (by decide +kernel) (by decide +kernel)
theorem c_RX9_232 : Cond.constant RX9 232 (-1000000) ∈ z_gw := z_mem 692 (by decide +kernel) (by decide +kernel)
theorem c_RX9_266 : Cond.constantLong RX9 266 (10) ∈ z_gw := z_mem 701 (by decide +kernel) (by decide +kernel)
theorem c_RX9_268 : Cond.constantLong RX9 268 (100) ∈ z_gw := z_mem 706 (by decide +kernel) (by decide +kernel)
theorem c_RX9_270 : Cond.constantLong RX9 270 (1000) ∈ z_gw := z_mem 711 (by decide +kernel) (by decide +kernel)
theorem c_RX9_272 : Cond.constantLong RX9 272 (10000) ∈ z_gw := z_mem 716 (by decide +kernel) (by decide +kernel)
theorem c_RX9_274 : Cond.constantLong RX9 274 (100000) ∈ z_gw := z_mem 721 (by decide +kernel) (by decide +kernel)
theorem c_RX0_59 : Cond.constant RX0 59 (-559241) ∈ z_gw := z_mem 511 (by decide +kernel) (by decide +kernel)
theorem c_RX0_60 : Cond.constant RX0 60 (-69906) ∈ z_gw := z_mem 512 (by decide +kernel) (by decide +kernel)
theorem c_RX8_32 : Cond.constant RX8 32 (1048576) ∈ z_gw := z_mem 656 (by decide +kernel) (by decide +kernel)
theorem c_RX10_79 : Cond.constantLong RX10 79 (255) ∈ z_gw := z_mem 860 (by decide +kernel) (by decide +kernel)
theorem c_RX10_91 : Cond.constantLong RX10 91 (97) ∈ z_gw := z_mem 880 (by decide +kernel) (by decide +kernel)
theorem c_RX10_93 : Cond.constantLong RX10 93 (122) ∈ z_gw := z_mem 881 (by decide +kernel) (by decide +kernel)
theorem c_RX10_95 : Cond.constantLong RX10 95 (48) ∈ z_gw := z_mem 886 (by decide +kernel) (by decide +kernel)
theorem c_RX10_97 : Cond.constantLong RX10 97 (57) ∈ z_gw := z_mem 887 (by decide +kernel) (by decide +kernel)
theorem c_RX10_166 : Cond.constantLong RX10 166 (11) ∈ z_gw := z_mem 1026 (by decide +kernel) (by decide +kernel)
theorem c_RX10_168 : Cond.constantLong RX10 168 (6) ∈ z_gw := z_mem 1027 (by decide +kernel) (by decide +kernel)
theorem c_RX10_170 : Cond.constantLong RX10 170 (7) ∈ z_gw := z_mem 1031 (by decide +kernel) (by decide +kernel)
theorem c_RX10_211 : Cond.constantLong RX10 211 (12) ∈ z_gw := z_mem 980 (by decide +kernel) (by decide +kernel)
theorem c_RX10_213 : Cond.constantLong RX10 213 (3) ∈ z_gw := z_mem 981 (by decide +kernel) (by decide +kernel)
theorem c_RX10_236 : Cond.constant RX10 236 (1000000) ∈ z_gw := z_mem 1018 (by decide +kernel) (by decide +kernel)
theorem c_RX10_250 : Cond.constantLong RX10 250 (2) ∈ z_gw := z_mem 1059 (by decide +kernel) (by decide +kernel)
theorem c_RX10_261 : Cond.constantLong RX10 261 (-1) ∈ z_gw := z_mem 1072 (by decide +kernel) (by decide +kernel)
theorem c_RX10_267 : Cond.constantLong RX10 267 (10) ∈ z_gw := z_mem 1085 (by decide +kernel) (by decide +kernel)
theorem c_RX10_282 : Cond.constantLong RX10 282 (5) ∈ z_gw := z_mem 1123 (by decide +kernel) (by decide +kernel)
theorem c_RX10_284 : Cond.constant RX10 284 (-1000000) ∈ z_gw := z_mem 1124 (by decide +kernel) (by decide +kernel)
theorem c_RX10_289 : Cond.constantLong RX10 289 (101) ∈ z_gw := z_mem 1125 (by decide +kernel) (by decide +kernel)
theorem c_RX10_291 : Cond.constantLong RX10 291 (1011) ∈ z_gw := z_mem 1126 (by decide +kernel) (by decide +kernel)
theorem c_RX10_293 : Cond.constantLong RX10 293 (10101) ∈ z_gw := z_mem 1127 (by decide +kernel) (by decide +kernel)
theorem c_RX10_295 : Cond.constantLong RX10 295 (100001) ∈ z_gw := z_mem 1128 (by decide +kernel) (by decide +kernel)
theorem c_RJ6_265 : Cond.constant RJ6 265 (1431655765) ∈ z_gw := z_mem 425 (by decide +kernel) (by decide +kernel)
theorem c_RJ6_266 : Cond.constant RJ6 266 (858993459) ∈ z_gw := z_mem 426 (by decide +kernel) (by decide +kernel)
theorem c_RJ6_267 : Cond.constant RJ6 267 (252645135) ∈ z_gw := z_mem 427 (by decide +kernel) (by decide +kernel)
end
section
/-! THE CALCULUS, 7: calls that make nothing; Math -/
/-- a callee that answers v and leaves all as it is -/
def z_pure (v : Nat × Int) (h : z_H) : Option (Nat × Int) → z_H → Prop := fun r h' => r = some v ∧ h' = h
theorem z_pi {x v : Int} {h : z_H} (e : x = v) : z_pure (0, v) h (some (0, x)) h := ⟨by rw [e], rfl⟩
/-- a callee that answers nothing and leaves h2 -/
def z_void (h2 : z_H) : Option (Nat × Int) → z_H → Prop := fun r h' => r = none ∧ h' = h2
/-- a callee that answers v and leaves h2 -/
def z_ans (v : Nat × Int) (h2 : z_H) : Option (Nat × Int) → z_H → Prop := fun r h' => r = some v ∧ h' = h2
theorem V_cV {Γ : z_C} {M : z_M} {a : Nat × Nat × Nat} {pc : Nat} {L st : List (Nat × Int)} {h : z_H} {N : z_M} {na : Nat} {as : List (Nat × Int)} {idx : Nat} {k : Int} {ci : Nat} {P : Option (Nat × Int) → z_H → Prop} (X : z_Ok Γ M) (d : decode M.2.1 pc = .ok (.invokevirtual idx, 3)) (hM : z_MOk N na) (hl : Cond.methodLink M.1.cls idx N.1 ∈ z_gw) (hi : Cond.instanceMethod N.1 ∈ z_gw) (hs : Cond.selects N.1.cls N.1 N.1 ∈ z_gw) (hR : N.2.2.2.2.1 + 1 ≤ M.2.2.2.2.1 ∧ 8 + (N.2.2.1 + 11) + N.2.2.2.2.2.1 ≤ M.2.2.2.2.2.1) (hz : N.2.2.2.2.2.2.1 = 0 ∧ N.2.2.2.2.2.2.2 = 0) (hcs : a.2.1 ≤ M.2.2.2.2.2.2.1 ∧ a.2.2 ≤ M.2.2.2.2.2.2.2) (hk : z_kd a.1 k = (0, ci)) (hci : ∀ q, vwCl[ci]? = some q → q.1 = N.1.cls) (hcv : (vwCl[ci]?).isSome = true) (hn : as.length = na) (hw : z_wd st ≤ 8) (hC : z_Ct N a.1 ((2, k) :: as) h P) (kk : ∀ r h', P r h' → z_V Γ a (pc + 3) L (r.toList ++ st) h') : z_V Γ a pc L (as.reverse ++ (2, k) :: st) h := by
  obtain ⟨n, cells, slots⟩ := a
  obtain ⟨y', cc', nL', ret', fr', lo', rc', rs'⟩ := N
  obtain ⟨hz1, hz2⟩ := hz
  have hz1 : rc' = 0 := hz1
  have hz2 : rs' = 0 := hz2
  subst hz1
  subst hz2
  exact V_callV X d hM hl hi hs hR hcs hk hci hcv hn hw hC kk
theorem V_cS {Γ : z_C} {M : z_M} {a : Nat × Nat × Nat} {pc : Nat} {L st : List (Nat × Int)} {h : z_H} {N : z_M} {na : Nat} {as : List (Nat × Int)} {idx : Nat} {P : Option (Nat × Int) → z_H → Prop} (X : z_Ok Γ M) (d : decode M.2.1 pc = .ok (.invokestatic idx, 3)) (hM : z_MOk N na) (hl : Cond.methodLink M.1.cls idx N.1 ∈ z_gw) (hs : Cond.static N.1 ∈ z_gw) (hR : N.2.2.2.2.1 + 1 ≤ M.2.2.2.2.1 ∧ 8 + (N.2.2.1 + 11) + N.2.2.2.2.2.1 ≤ M.2.2.2.2.2.1) (hz : N.2.2.2.2.2.2.1 = 0 ∧ N.2.2.2.2.2.2.2 = 0) (hcs : a.2.1 ≤ M.2.2.2.2.2.2.1 ∧ a.2.2 ≤ M.2.2.2.2.2.2.2) (hn : as.length = na) (hw : z_wd st ≤ 8) (hC : z_Ct N a.1 as h P) (kk : ∀ r h', P r h' → z_V Γ a (pc + 3) L (r.toList ++ st) h') : z_V Γ a pc L (as.reverse ++ st) h := by
  obtain ⟨n, cells, slots⟩ := a
  obtain ⟨y', cc', nL', ret', fr', lo', rc', rs'⟩ := N
  obtain ⟨hz1, hz2⟩ := hz
  have hz1 : rc' = 0 := hz1
  have hz2 : rs' = 0 := hz2
  subst hz1
  subst hz2
  exact V_callS X d hM hl hs hR hcs hn hw hC kk
theorem V_fV {Γ : z_C} {M : z_M} {a : Nat × Nat × Nat} {pc : Nat} {L st : List (Nat × Int)} {h : z_H} {N : z_M} {na : Nat} {as : List (Nat × Int)} {idx : Nat} {k : Int} {ci : Nat} {v : Nat × Int} (X : z_Ok Γ M) (d : decode M.2.1 pc = .ok (.invokevirtual idx, 3)) (hM : z_MOk N na) (hl : Cond.methodLink M.1.cls idx N.1 ∈ z_gw) (hi : Cond.instanceMethod N.1 ∈ z_gw) (hs : Cond.selects N.1.cls N.1 N.1 ∈ z_gw) (hR : N.2.2.2.2.1 + 1 ≤ M.2.2.2.2.1 ∧ 8 + (N.2.2.1 + 11) + N.2.2.2.2.2.1 ≤ M.2.2.2.2.2.1) (hz : N.2.2.2.2.2.2.1 = 0 ∧ N.2.2.2.2.2.2.2 = 0) (hcs : a.2.1 ≤ M.2.2.2.2.2.2.1 ∧ a.2.2 ≤ M.2.2.2.2.2.2.2) (hk : z_kd a.1 k = (0, ci)) (hci : ∀ q, vwCl[ci]? = some q → q.1 = N.1.cls) (hcv : (vwCl[ci]?).isSome = true) (hn : as.length = na) (hw : z_wd st ≤ 8) (hC : z_Ct N a.1 ((2, k) :: as) h (z_pure v h)) (kk : z_V Γ a (pc + 3) L (v :: st) h) : z_V Γ a pc L (as.reverse ++ (2, k) :: st) h := by
  refine V_cV X d hM hl hi hs hR hz hcs hk hci hcv hn hw hC (fun r h' hp => ?_)
  obtain ⟨rfl, rfl⟩ := hp
  exact kk
theorem V_fS {Γ : z_C} {M : z_M} {a : Nat × Nat × Nat} {pc : Nat} {L st : List (Nat × Int)} {h : z_H} {N : z_M} {na : Nat} {as : List (Nat × Int)} {idx : Nat} {v : Nat × Int} (X : z_Ok Γ M) (d : decode M.2.1 pc = .ok (.invokestatic idx, 3)) (hM : z_MOk N na) (hl : Cond.methodLink M.1.cls idx N.1 ∈ z_gw) (hs : Cond.static N.1 ∈ z_gw) (hR : N.2.2.2.2.1 + 1 ≤ M.2.2.2.2.1 ∧ 8 + (N.2.2.1 + 11) + N.2.2.2.2.2.1 ≤ M.2.2.2.2.2.1) (hz : N.2.2.2.2.2.2.1 = 0 ∧ N.2.2.2.2.2.2.2 = 0) (hcs : a.2.1 ≤ M.2.2.2.2.2.2.1 ∧ a.2.2 ≤ M.2.2.2.2.2.2.2) (hn : as.length = na) (hw : z_wd st ≤ 8) (hC : z_Ct N a.1 as h (z_pure v h)) (kk : z_V Γ a (pc + 3) L (v :: st) h) : z_V Γ a pc L (as.reverse ++ st) h := by
  refine V_cS X d hM hl hs hR hz hcs hn hw hC (fun r h' hp => ?_)
  obtain ⟨rfl, rfl⟩ := hp
  exact kk
theorem c_mmax : Cond.code Lib.Math.max.name Lib.Math.max.code 2 (some .int) ∈ z_gw := z_mem 466 (by decide +kernel) (by decide +kernel)
theorem s_mmax : Cond.static Lib.Math.max.name ∈ z_gw := z_mem 465 (by decide +kernel) (by decide +kernel)
theorem V_mmax {Γ : z_C} {M : z_M} {a : Nat × Nat × Nat} {pc : Nat} {L st : List (Nat × Int)} {h : z_H} {idx : Nat} {x z : Int} (X : z_Ok Γ M) (d : decode M.2.1 pc = .ok (.invokestatic idx, 3)) (hl : Cond.methodLink M.1.cls idx Lib.Math.max.name ∈ z_gw) (hR : 1 ≤ M.2.2.2.2.1 ∧ z_wd st + 13 ≤ M.2.2.2.2.2.1) (hcs : a.2.1 ≤ M.2.2.2.2.2.2.1 ∧ a.2.2 ≤ M.2.2.2.2.2.2.2) (h1 : z_R x) (h2 : z_R z) (kk : z_V Γ a (pc + 3) L ((0, if x < z then z else x) :: st) h) : z_V Γ a pc L ((0, z) :: (0, x) :: st) h := by
  obtain ⟨p, l, e, R, s, m, args, below, meth, c, Q, D, ca, base⟩ := Γ
  obtain ⟨y, cc, nL, ret, fr, lo, rc, rs⟩ := M
  obtain ⟨n, cells, slots⟩ := a
  obtain ⟨hx, hb, hml, hown, hts, hlk, hrt, hfr, hlo, hrc, hrs, hK, hbs, hnm⟩ := X
  intro H locs ls hW hS hL
  have g := kk H locs ls hW hS hL
  refine va_mmax hx hb hL.1.symm hown (hts _ hl) (hts _ s_mmax) (hts _ (z_mem 55 (by decide +kernel) (by decide +kernel))) (hts _ c_mmax) (by rw [hfr]; exact hR.1) (by rw [z_wd_eq, hlo]; exact hR.2) (by rw [hrc]; exact hcs.1) (by rw [hrs]; exact hcs.2) d ?_
  by_cases q : x < z
  · rw [if_pos ((z_i_lt h1 h2).mpr q)]
    rw [if_pos q] at g
    exact g
  · rw [if_neg (fun w => q ((z_i_lt h1 h2).mp w))]
    rw [if_neg q] at g
    exact g
theorem c_mmin : Cond.code Lib.Math.min.name Lib.Math.min.code 2 (some .int) ∈ z_gw := z_mem 596 (by decide +kernel) (by decide +kernel)
theorem s_mmin : Cond.static Lib.Math.min.name ∈ z_gw := z_mem 595 (by decide +kernel) (by decide +kernel)
theorem V_mmin {Γ : z_C} {M : z_M} {a : Nat × Nat × Nat} {pc : Nat} {L st : List (Nat × Int)} {h : z_H} {idx : Nat} {x z : Int} (X : z_Ok Γ M) (d : decode M.2.1 pc = .ok (.invokestatic idx, 3)) (hl : Cond.methodLink M.1.cls idx Lib.Math.min.name ∈ z_gw) (hR : 1 ≤ M.2.2.2.2.1 ∧ z_wd st + 13 ≤ M.2.2.2.2.2.1) (hcs : a.2.1 ≤ M.2.2.2.2.2.2.1 ∧ a.2.2 ≤ M.2.2.2.2.2.2.2) (h1 : z_R x) (h2 : z_R z) (kk : z_V Γ a (pc + 3) L ((0, if z < x then z else x) :: st) h) : z_V Γ a pc L ((0, z) :: (0, x) :: st) h := by
  obtain ⟨p, l, e, R, s, m, args, below, meth, c, Q, D, ca, base⟩ := Γ
  obtain ⟨y, cc, nL, ret, fr, lo, rc, rs⟩ := M
  obtain ⟨n, cells, slots⟩ := a
  obtain ⟨hx, hb, hml, hown, hts, hlk, hrt, hfr, hlo, hrc, hrs, hK, hbs, hnm⟩ := X
  intro H locs ls hW hS hL
  have g := kk H locs ls hW hS hL
  refine va_mmin hx hb hL.1.symm hown (hts _ hl) (hts _ s_mmin) (hts _ (z_mem 55 (by decide +kernel) (by decide +kernel))) (hts _ c_mmin) (by rw [hfr]; exact hR.1) (by rw [z_wd_eq, hlo]; exact hR.2) (by rw [hrc]; exact hcs.1) (by rw [hrs]; exact hcs.2) d ?_
  by_cases q : z < x
  · rw [if_pos ((z_i_lt h2 h1).mpr q)]
    rw [if_pos q] at g
    exact g
  · rw [if_neg (fun w => q ((z_i_lt h2 h1).mp w))]
    rw [if_neg q] at g
    exact g
theorem lm_RX0_48 : Cond.methodLink RX0 48 Lib.Math.max.name ∈ z_gw := z_mem 517 (by decide +kernel) (by decide +kernel)
theorem lm_RX5_74 : Cond.methodLink RX5 74 Lib.Math.max.name ∈ z_gw := z_mem 464 (by decide +kernel) (by decide +kernel)
theorem lm_RX7_28 : Cond.methodLink RX7 28 Lib.Math.min.name ∈ z_gw := z_mem 594 (by decide +kernel) (by decide +kernel)
theorem lm_RX8_87 : Cond.methodLink RX8 87 Lib.Math.max.name ∈ z_gw := z_mem 687 (by decide +kernel) (by decide +kernel)
end
section
/-! BITS of the coded ints -/
theorem z_i_nat (n : Nat) : z_i (n : Int) = nI n := Int32.ofInt_eq_ofNat
theorem z_nat_and (a b : Nat) : nI a &&& nI b = nI (a &&& b) := by
  apply Int32.toBitVec_inj.1
  show BitVec.ofNat 32 a &&& BitVec.ofNat 32 b = BitVec.ofNat 32 (a &&& b)
  apply BitVec.eq_of_getLsbD_eq
  intro i hi
  simp [hi]
theorem z_nat_or (a b : Nat) : nI a ||| nI b = nI (a ||| b) := by
  apply Int32.toBitVec_inj.1
  show BitVec.ofNat 32 a ||| BitVec.ofNat 32 b = BitVec.ofNat 32 (a ||| b)
  apply BitVec.eq_of_getLsbD_eq
  intro i hi
  simp [hi]
theorem z_and_nat {a : Nat} (b : Nat) (ha : a < 2 ^ 31) : z_and (a : Int) (b : Int) = ((a &&& b : Nat) : Int) := by
  unfold z_and
  rw [z_i_nat, z_i_nat, z_nat_and]
  exact nI_toInt (Nat.lt_of_le_of_lt Nat.and_le_left ha)
theorem z_or_nat {a b : Nat} (ha : a < 2 ^ 31) (hb : b < 2 ^ 31) : z_or (a : Int) (b : Int) = ((a ||| b : Nat) : Int) := by
  unfold z_or
  rw [z_i_nat, z_i_nat, z_nat_or]
  exact nI_toInt (Nat.or_lt_two_pow ha hb)
theorem z_sh_l : ∀ n, n < 32 → ((nI n &&& 31).toBitVec.smod 32).toNat = n := by decide +kernel
theorem z_shl_nat {a k : Nat} (hk : k < 32) (h : a * 2 ^ k < 2 ^ 31) : z_shl (a : Int) (k : Int) = ((a * 2 ^ k : Nat) : Int) := by
  unfold z_shl
  rw [z_i_nat, z_i_nat, pk_shlN _ k (z_sh_l k hk) (by omega)]
  exact nI_toInt h
theorem z_shr_nat {a k : Nat} (hk : k < 32) (h : a < 2 ^ 31) : z_shr (a : Int) (k : Int) = ((a / 2 ^ k : Nat) : Int) := by
  unfold z_shr
  rw [z_i_nat, z_i_nat, pk_shrN h _ k (z_sh_l k hk)]
  exact nI_toInt (Nat.lt_of_le_of_lt (Nat.div_le_self _ _) h)
theorem z_not_bv (x : Int) : (z_i (z_xor x (-1))).toBitVec = ~~~ (z_i x).toBitVec := by
  unfold z_xor
  rw [z_i_of, Int32.toBitVec_xor]
  show (z_i x).toBitVec ^^^ BitVec.allOnes 32 = _
  rw [BitVec.xor_allOnes]
theorem z_andnot {a : Nat} (b : Nat) (ha : a < 2 ^ 31) : z_and (a : Int) (z_xor (b : Int) (-1)) = ((a ^^^ (a &&& b) : Nat) : Int) := by
  have e : z_i (a : Int) &&& z_i (z_xor (b : Int) (-1)) = nI (a ^^^ (a &&& b)) := by
    apply Int32.toBitVec_inj.1
    rw [Int32.toBitVec_and, z_not_bv, z_i_nat, z_i_nat]
    show BitVec.ofNat 32 a &&& ~~~ BitVec.ofNat 32 b = BitVec.ofNat 32 (a ^^^ (a &&& b))
    apply BitVec.eq_of_getLsbD_eq
    intro i hi
    simp [hi]
    cases (BitVec.ofNat 32 a)[i] <;> cases (BitVec.ofNat 32 b)[i] <;> rfl
  unfold z_and
  rw [e]
  exact nI_toInt (Nat.xor_lt_two_pow ha (Nat.lt_of_le_of_lt Nat.and_le_left ha))
/-- bit i of x -/
def tb (x i : Int) : Bool := x.toNat.testBit i.toNat
theorem z_bit {x i : Int} (hx : 0 ≤ x) (hx2 : x < 2147483648) (hi : 0 ≤ i) (hi2 : i < 31) : z_and (z_shr x i) 1 = if tb x i then 1 else 0 := by
  obtain ⟨a, rfl⟩ := Int.eq_ofNat_of_zero_le hx
  obtain ⟨k, rfl⟩ := Int.eq_ofNat_of_zero_le hi
  have ha : a < 2 ^ 31 := by omega
  rw [z_shr_nat (by omega) ha, show (1 : Int) = ((1 : Nat) : Int) from rfl, z_and_nat 1 (Nat.lt_of_le_of_lt (Nat.div_le_self _ _) ha)]
  unfold tb
  rw [Int.toNat_natCast, Int.toNat_natCast, Nat.testBit_eq_decide_div_mod_eq, Nat.and_one_is_mod]
  by_cases h : a / 2 ^ k % 2 = 1
  · rw [h]; simp
  · have h0 : a / 2 ^ k % 2 = 0 := by omega
    rw [h0]; simp
end
section
/-! fields by whole numbers -/
theorem V_gz {Γ : z_C} {M : z_M} {a : Nat × Nat × Nat} {pc : Nat} {L st : List (Nat × Int)} {h : z_H} {idx ci j t : Nat} {fin : Bool} {k v : Int} (X : z_Ok Γ M) (d : decode M.2.1 pc = .ok (.getfield idx, 3)) (f : z_F M.1.cls idx ci j t fin) (hk : z_kd a.1 k = (0, ci)) (jz : Int) (ej : (j : Int) = jz) (hv : h k jz = v) (kk : z_V Γ a (pc + 3) L ((t, v) :: st) h) : z_V Γ a pc L ((2, k) :: st) h := V_get X d f hk (by rw [ej]; exact hv) kk
theorem V_pz {Γ : z_C} {M : z_M} {a : Nat × Nat × Nat} {pc : Nat} {L st : List (Nat × Int)} {h : z_H} {idx ci j t : Nat} {k v : Int} (X : z_Ok Γ M) (d : decode M.2.1 pc = .ok (.putfield idx, 3)) (f : z_F M.1.cls idx ci j t false) (hk : z_kd a.1 k = (0, ci)) (hf : z_Fit (z_ty ci j) t v) (jz : Int) (ej : (j : Int) = jz) (kk : z_V Γ a (pc + 3) L st (z_st h k jz v)) : z_V Γ a pc L ((t, v) :: (2, k) :: st) h := V_put X d f hk hf (by rw [ej]; exact kk)
theorem V_pFz {Γ : z_C} {M : z_M} {a : Nat × Nat × Nat} {pc : Nat} {L st : List (Nat × Int)} {h : z_H} {idx ci j t : Nat} {k v : Int} (X : z_Ok Γ M) (d : decode M.2.1 pc = .ok (.putfield idx, 3)) (f : z_F M.1.cls idx ci j t true) (hin : M.1.name = "<init>") (hdc : ∀ C T, vwCl[ci]? = some (C, T, z_nf ci) → C = M.1.cls) (hk : z_kd a.1 k = (0, ci)) (hf : z_Fit (z_ty ci j) t v) (jz : Int) (ej : (j : Int) = jz) (kk : z_V Γ a (pc + 3) L st (z_st h k jz v)) : z_V Γ a pc L ((t, v) :: (2, k) :: st) h := V_putF X d f hin hdc hk hf (by rw [ej]; exact kk)
/-- a truth value as an int -/
def z_b (b : Bool) : Int := if b then 1 else 0
theorem z_b_rng (b : Bool) : z_R (z_b b) := by cases b <;> exact ⟨by decide, by decide⟩
theorem z_b_01 (b : Bool) : z_b b = 0 ∨ z_b b = 1 := by cases b <;> decide
theorem z_b_0 {b : Bool} : z_b b = 0 ↔ b = false := by cases b <;> decide
theorem z_b_1 {b : Bool} : z_b b = 1 ↔ b = true := by cases b <;> decide
theorem z_b_n0 {b : Bool} : ¬ z_b b = 0 ↔ b = true := by cases b <;> decide
theorem V_bif_eq {Γ : z_C} {M : z_M} {a : Nat × Nat × Nat} {pc : Nat} {L st : List (Nat × Int)} {h : z_H} {b : Bool} {off : Int} (X : z_Ok Γ M) (tgt : Nat) (d : decode M.2.1 pc = .ok (.ifCond .eq off, 3)) (ht : (pc : Int) + off = (tgt : Int)) (kt : b = false → z_V Γ a tgt L st h) (kf : b = true → z_V Γ a (pc + 3) L st h) : z_V Γ a pc L ((0, z_b b) :: st) h := V_if_eq X tgt d ht (z_b_rng b) (fun q => kt (z_b_0.mp q)) (fun q => kf (z_b_n0.mp q))
theorem V_bif_ne {Γ : z_C} {M : z_M} {a : Nat × Nat × Nat} {pc : Nat} {L st : List (Nat × Int)} {h : z_H} {b : Bool} {off : Int} (X : z_Ok Γ M) (tgt : Nat) (d : decode M.2.1 pc = .ok (.ifCond .ne off, 3)) (ht : (pc : Int) + off = (tgt : Int)) (kt : b = true → z_V Γ a tgt L st h) (kf : b = false → z_V Γ a (pc + 3) L st h) : z_V Γ a pc L ((0, z_b b) :: st) h := V_if_ne X tgt d ht (z_b_rng b) (fun q => kt (z_b_n0.mp q)) (fun q => kf (z_b_0.mp q))
theorem V_idivN {Γ : z_C} {M : z_M} {a : Nat × Nat × Nat} {pc : Nat} {L st : List (Nat × Int)} {h : z_H} {x z : Int} (X : z_Ok Γ M) (d : decode M.2.1 pc = .ok (.idiv, 1)) (h1 : 0 ≤ x) (h2 : x < 2147483648) (h3 : 0 < z) (h4 : z < 2147483648) (k : z_V Γ a (pc + 1) L ((0, x / z) :: st) h) : z_V Γ a pc L ((0, z) :: (0, x) :: st) h := V_idiv X d ⟨by omega, h2⟩ ⟨by omega, h4⟩ (by omega) (by omega) (by rw [Int.tdiv_eq_ediv_of_nonneg h1]; exact k)
theorem V_iremN {Γ : z_C} {M : z_M} {a : Nat × Nat × Nat} {pc : Nat} {L st : List (Nat × Int)} {h : z_H} {x z : Int} (X : z_Ok Γ M) (d : decode M.2.1 pc = .ok (.irem, 1)) (h1 : 0 ≤ x) (h2 : x < 2147483648) (h3 : 0 < z) (h4 : z < 2147483648) (k : z_V Γ a (pc + 1) L ((0, x % z) :: st) h) : z_V Γ a pc L ((0, z) :: (0, x) :: st) h := V_irem X d ⟨by omega, h2⟩ ⟨by omega, h4⟩ (by omega) (by omega) (by rw [Int.tmod_eq_emod_of_nonneg h1]; exact k)
/-- the bit of a set, as the machine tests it -/
theorem z_bitb {x i : Int} (hx : 0 ≤ x) (hx2 : x < 2147483648) (hi : 0 ≤ i) (hi2 : i < 31) : z_and (z_shr x i) 1 = z_b (tb x i) := z_bit hx hx2 hi hi2
/-- how many of the first n -/
def z_ct (p : Nat → Bool) : Nat → Nat
  | 0 => 0
  | n + 1 => z_ct p n + if p n then 1 else 0
def z_pop (x : Int) : Int := ((z_ct x.toNat.testBit 31 : Nat) : Int)
/-- the first of the first n, or -9 -/
def z_find (P : Int → Bool) : Nat → Int
  | 0 => -9
  | n + 1 => if z_find P n = -9 then (if P (n : Int) then (n : Int) else -9) else z_find P n
theorem z_find_none {P : Int → Bool} : ∀ {n : Nat}, (∀ k : Int, 0 ≤ k → k < n → P k = false) → z_find P n = -9
  | 0, _ => rfl
  | n + 1, h => by
    have e : z_find P n = -9 := z_find_none (fun k h1 h2 => h k h1 (by omega))
    unfold z_find
    rw [if_pos e, h (n : Int) (by omega) (by omega)]
    rfl
theorem z_find_some {P : Int → Bool} {i : Int} (h0 : 0 ≤ i) (hi : P i = true) (hk : ∀ k : Int, 0 ≤ k → k < i → P k = false) : ∀ {n : Nat}, i < n → z_find P n = i
  | 0, h => by omega
  | n + 1, h => by
    unfold z_find
    by_cases e : i < n
    · rw [z_find_some h0 hi hk e, if_neg (by omega)]
    · have e2 : i = n := by omega
      rw [z_find_none (fun k h1 h2 => hk k h1 (by omega)), if_pos rfl, ← e2, if_pos hi]
theorem z_find_spec (P : Int → Bool) (n : Nat) : (z_find P n = -9 ∧ ∀ k : Int, 0 ≤ k → k < n → P k = false) ∨ (0 ≤ z_find P n ∧ z_find P n < n ∧ P (z_find P n) = true ∧ ∀ k : Int, 0 ≤ k → k < z_find P n → P k = false) := by
  induction n with
  | zero => exact Or.inl ⟨rfl, fun k h1 h2 => by omega⟩
  | succ n ih =>
    unfold z_find
    rcases ih with ⟨h1, h2⟩ | ⟨h1, h2, h3, h4⟩
    · rw [if_pos h1]
      cases hp : P (n : Int) with
      | false =>
        refine Or.inl ⟨rfl, fun k h3 h4 => ?_⟩
        by_cases e : k = n
        · rw [e]; exact hp
        · exact h2 k h3 (by omega)
      | true => exact Or.inr ⟨by simp, by simp; omega, hp, fun k h3 h4 => h2 k h3 (by simpa using h4)⟩
    · rw [if_neg (by omega)]
      exact Or.inr ⟨h1, by omega, h3, h4⟩
/-! calls, the stack told behind the contract -/
theorem V_CV {Γ : z_C} {M : z_M} {a : Nat × Nat × Nat} {pc : Nat} {L st S : List (Nat × Int)} {h : z_H} {N : z_M} {na : Nat} {as : List (Nat × Int)} {idx : Nat} {k : Int} {ci : Nat} {P : Option (Nat × Int) → z_H → Prop} (X : z_Ok Γ M) (d : decode M.2.1 pc = .ok (.invokevirtual idx, 3)) (hM : z_MOk N na) (hl : Cond.methodLink M.1.cls idx N.1 ∈ z_gw) (hi : Cond.instanceMethod N.1 ∈ z_gw) (hs : Cond.selects N.1.cls N.1 N.1 ∈ z_gw) (hR : N.2.2.2.2.1 + 1 ≤ M.2.2.2.2.1 ∧ 8 + (N.2.2.1 + 11) + N.2.2.2.2.2.1 ≤ M.2.2.2.2.2.1) (hz : N.2.2.2.2.2.2.1 = 0 ∧ N.2.2.2.2.2.2.2 = 0) (hcs : a.2.1 ≤ M.2.2.2.2.2.2.1 ∧ a.2.2 ≤ M.2.2.2.2.2.2.2) (hC : z_Ct N a.1 ((2, k) :: as) h P) (hst : S = as.reverse ++ (2, k) :: st) (hk : z_kd a.1 k = (0, ci)) (hci : ∀ q, vwCl[ci]? = some q → q.1 = N.1.cls) (hcv : (vwCl[ci]?).isSome = true) (hn : as.length = na) (hw : z_wd st ≤ 8) (kk : ∀ r h', P r h' → z_V Γ a (pc + 3) L (r.toList ++ st) h') : z_V Γ a pc L S h := by
  subst hst
  exact V_cV X d hM hl hi hs hR hz hcs hk hci hcv hn hw hC kk
theorem V_CS {Γ : z_C} {M : z_M} {a : Nat × Nat × Nat} {pc : Nat} {L st S : List (Nat × Int)} {h : z_H} {N : z_M} {na : Nat} {as : List (Nat × Int)} {idx : Nat} {P : Option (Nat × Int) → z_H → Prop} (X : z_Ok Γ M) (d : decode M.2.1 pc = .ok (.invokestatic idx, 3)) (hM : z_MOk N na) (hl : Cond.methodLink M.1.cls idx N.1 ∈ z_gw) (hs : Cond.static N.1 ∈ z_gw) (hR : N.2.2.2.2.1 + 1 ≤ M.2.2.2.2.1 ∧ 8 + (N.2.2.1 + 11) + N.2.2.2.2.2.1 ≤ M.2.2.2.2.2.1) (hz : N.2.2.2.2.2.2.1 = 0 ∧ N.2.2.2.2.2.2.2 = 0) (hcs : a.2.1 ≤ M.2.2.2.2.2.2.1 ∧ a.2.2 ≤ M.2.2.2.2.2.2.2) (hC : z_Ct N a.1 as h P) (hst : S = as.reverse ++ st) (hn : as.length = na) (hw : z_wd st ≤ 8) (kk : ∀ r h', P r h' → z_V Γ a (pc + 3) L (r.toList ++ st) h') : z_V Γ a pc L S h := by
  subst hst
  exact V_cS X d hM hl hs hR hz hcs hn hw hC kk
theorem V_FV {Γ : z_C} {M : z_M} {a : Nat × Nat × Nat} {pc : Nat} {L st S : List (Nat × Int)} {h : z_H} {N : z_M} {na : Nat} {as : List (Nat × Int)} {idx : Nat} {k : Int} {ci : Nat} {v : Nat × Int} (X : z_Ok Γ M) (d : decode M.2.1 pc = .ok (.invokevirtual idx, 3)) (hM : z_MOk N na) (hl : Cond.methodLink M.1.cls idx N.1 ∈ z_gw) (hi : Cond.instanceMethod N.1 ∈ z_gw) (hs : Cond.selects N.1.cls N.1 N.1 ∈ z_gw) (hR : N.2.2.2.2.1 + 1 ≤ M.2.2.2.2.1 ∧ 8 + (N.2.2.1 + 11) + N.2.2.2.2.2.1 ≤ M.2.2.2.2.2.1) (hz : N.2.2.2.2.2.2.1 = 0 ∧ N.2.2.2.2.2.2.2 = 0) (hcs : a.2.1 ≤ M.2.2.2.2.2.2.1 ∧ a.2.2 ≤ M.2.2.2.2.2.2.2) (hC : z_Ct N a.1 ((2, k) :: as) h (z_pure v h)) (hst : S = as.reverse ++ (2, k) :: st) (hk : z_kd a.1 k = (0, ci)) (hci : ∀ q, vwCl[ci]? = some q → q.1 = N.1.cls) (hcv : (vwCl[ci]?).isSome = true) (hn : as.length = na) (hw : z_wd st ≤ 8) (kk : z_V Γ a (pc + 3) L (v :: st) h) : z_V Γ a pc L S h := by
  subst hst
  exact V_fV X d hM hl hi hs hR hz hcs hk hci hcv hn hw hC kk
theorem V_FS {Γ : z_C} {M : z_M} {a : Nat × Nat × Nat} {pc : Nat} {L st S : List (Nat × Int)} {h : z_H} {N : z_M} {na : Nat} {as : List (Nat × Int)} {idx : Nat} {v : Nat × Int} (X : z_Ok Γ M) (d : decode M.2.1 pc = .ok (.invokestatic idx, 3)) (hM : z_MOk N na) (hl : Cond.methodLink M.1.cls idx N.1 ∈ z_gw) (hs : Cond.static N.1 ∈ z_gw) (hR : N.2.2.2.2.1 + 1 ≤ M.2.2.2.2.1 ∧ 8 + (N.2.2.1 + 11) + N.2.2.2.2.2.1 ≤ M.2.2.2.2.2.1) (hz : N.2.2.2.2.2.2.1 = 0 ∧ N.2.2.2.2.2.2.2 = 0) (hcs : a.2.1 ≤ M.2.2.2.2.2.2.1 ∧ a.2.2 ≤ M.2.2.2.2.2.2.2) (hC : z_Ct N a.1 as h (z_pure v h)) (hst : S = as.reverse ++ st) (hn : as.length = na) (hw : z_wd st ≤ 8) (kk : z_V Γ a (pc + 3) L (v :: st) h) : z_V Γ a pc L S h := by
  subst hst
  exact V_fS X d hM hl hs hR hz hcs hn hw hC kk
theorem V_CI {Γ : z_C} {M : z_M} {a : Nat × Nat × Nat} {pc : Nat} {L st S : List (Nat × Int)} {h : z_H} {N : z_M} {na : Nat} {as : List (Nat × Int)} {idx : Nat} {k : Int} {P : Option (Nat × Int) → z_H → Prop} (X : z_Ok Γ M) (d : decode M.2.1 pc = .ok (.invokespecial idx, 3)) (hM : z_MOk N na) (hl : Cond.methodLink M.1.cls idx N.1 ∈ z_gw) (hi : Cond.instanceMethod N.1 ∈ z_gw) (hin : N.1.name = "<init>") (hrn : N.2.2.2.1 = none) (hR : N.2.2.2.2.1 + 1 ≤ M.2.2.2.2.1 ∧ 8 + (N.2.2.1 + 11) + N.2.2.2.2.2.1 ≤ M.2.2.2.2.2.1) (hcs : a.2.1 + N.2.2.2.2.2.2.1 ≤ M.2.2.2.2.2.2.1 ∧ a.2.2 + N.2.2.2.2.2.2.2 ≤ M.2.2.2.2.2.2.2) (hC : z_Ct N a.1 ((2, k) :: as) h P) (hst : S = as.reverse ++ (2, k) :: st) (hk0 : 0 ≤ k) (hn : as.length = na) (hw : z_wd st ≤ 8) (kk : ∀ r h', P r h' → z_V Γ (a.1 + N.2.2.2.2.2.2.1, a.2.1 + N.2.2.2.2.2.2.1, a.2.2 + N.2.2.2.2.2.2.2) (pc + 3) L (r.toList ++ st) h') : z_V Γ a pc L S h := by
  subst hst
  exact V_callI X d hM hl hi hin hrn hR hcs hk0 hn hw hC kk
theorem V_CN {Γ : z_C} {M : z_M} {a : Nat × Nat × Nat} {pc : Nat} {L st S : List (Nat × Int)} {h : z_H} {N : z_M} {na : Nat} {as : List (Nat × Int)} {idx : Nat} {k : Int} {P : Option (Nat × Int) → z_H → Prop} (X : z_Ok Γ M) (d : decode M.2.1 pc = .ok (.invokespecial idx, 3)) (hM : z_MOk N na) (hl : Cond.methodLinkNest M.1.cls idx N.1 RX9 ∈ z_nest) (hi : Cond.instanceMethod N.1 ∈ z_gw) (hin : N.1.name = "<init>") (hrn : N.2.2.2.1 = none) (hR : N.2.2.2.2.1 + 1 ≤ M.2.2.2.2.1 ∧ 8 + (N.2.2.1 + 11) + N.2.2.2.2.2.1 ≤ M.2.2.2.2.2.1) (hcs : a.2.1 + N.2.2.2.2.2.2.1 ≤ M.2.2.2.2.2.2.1 ∧ a.2.2 + N.2.2.2.2.2.2.2 ≤ M.2.2.2.2.2.2.2) (hC : z_Ct N a.1 ((2, k) :: as) h P) (hst : S = as.reverse ++ (2, k) :: st) (hk0 : 0 ≤ k) (hn : as.length = na) (hw : z_wd st ≤ 8) (kk : ∀ r h', P r h' → z_V Γ (a.1 + N.2.2.2.2.2.2.1, a.2.1 + N.2.2.2.2.2.2.1, a.2.2 + N.2.2.2.2.2.2.2) (pc + 3) L (r.toList ++ st) h') : z_V Γ a pc L S h := by
  subst hst
  exact V_callN X d hM hl hi hin hrn hR hcs hk0 hn hw hC kk
end
section
/-! the JDK's own methods -/
theorem ct_J6_bitCount_0f7a4 {n : Nat} {h : z_H} {x : Int} (h0 : 0 ≤ x) (h1 : x < 2147483648) : z_Ct mJ6_bitCount_0f7a4 n [(0, x)] h (z_pure (0, z_pop x) h) := by
  sorry
end
section
/-! WHAT THE CLASS HOLDS, and its functions over the cells -/
/-- the plan's cells -/
def c_Pl (h : z_H) (pl : Int) : Prop := z_kd 107 pl = (0, 2) ∧ h pl 0 = pl + 1 ∧ h pl 1 = pl + 2 ∧ z_kd 107 (pl + 1) = (1, 20) ∧ z_kd 107 (pl + 2) = (1, 256) ∧ (1 ≤ h pl 2 ∧ h pl 2 ≤ 5) ∧ (1 ≤ h pl 3 ∧ h pl 3 ≤ 4) ∧ (0 ≤ h pl 4 ∧ h pl 4 ≤ 8) ∧ (∀ p, 0 ≤ p → p < 20 → 0 ≤ h (pl + 1) p ∧ h (pl + 1) p < 8) ∧ ∀ p, 0 ≤ p → p < 256 → 0 ≤ h (pl + 2) p ∧ h (pl + 2) p < 8
/-- a moment's cells -/
def c_Mo (h : z_H) (mo : Int) : Prop := z_kd 107 mo = (0, 1) ∧ h mo 0 = mo + 1 ∧ z_kd 107 (mo + 1) = (1, 20) ∧ (0 ≤ h mo 1 ∧ h mo 1 < 1048576) ∧ (1 ≤ h mo 2 ∧ h mo 2 ≤ 12) ∧ (0 ≤ h mo 3 ∧ h mo 3 ≤ 3) ∧ ∀ p, 0 ≤ p → p < 20 → 0 ≤ h (mo + 1) p ∧ h (mo + 1) p < 256
/-- the scene: its plan, the story's present -/
def c_Sc (h : z_H) (pl mo : Int) : Prop := h 3 0 = 4 ∧ h 3 1 = pl ∧ h 4 2 = mo ∧ c_Pl h pl ∧ c_Mo h mo
def c_paneAt (h : z_H) (pl x y : Int) : Int := if 0 ≤ x ∧ x < h pl 2 ∧ 0 ≤ y ∧ y < h pl 3 then 4 * x + y else -1
theorem c_paneAt_rng {h : z_H} {pl x y : Int} (h1 : h pl 2 ≤ 5) (h2 : h pl 3 ≤ 4) : -1 ≤ c_paneAt h pl x y ∧ c_paneAt h pl x y < 20 := by
  unfold c_paneAt
  split <;> omega
def c_broken (h : z_H) (mo p : Int) : Bool := tb (h mo 1) p
def c_colour (h : z_H) (pl mo p : Int) : Int := if c_broken h mo p then 7 else h (pl + 1) p
def c_lets (h : z_H) (pl mo p : Int) : Int := if p = -1 then 0 else z_and (c_colour h pl mo p) (h (pl + 2) (h (mo + 1) p))
def c_own (h : z_H) (pl mo t k : Int) : Int := if h mo 2 ≤ t / 7 then -1 else c_paneAt h pl (t / 7 - k) (t % 7 - h mo 3)
def c_mir (h : z_H) (pl mo t k : Int) : Int := if h mo 2 ≤ t / 7 then -1 else c_paneAt h pl (2 * h mo 2 - 1 - t / 7 - k) (t % 7 - h mo 3)
def c_light (h : z_H) (pl mo t k : Int) : Int := z_or (c_lets h pl mo (c_own h pl mo t k)) (c_lets h pl mo (c_mir h pl mo t k))
def c_room (h : z_H) (mo p : Int) : Int := if p = -1 ∨ c_broken h mo p = true then 0 else 3 - z_pop (h (mo + 1) p)
def c_has (h : z_H) (pl p : Int) : Bool := !decide (c_paneAt h pl (p / 4) (p % 4) = -1)
def c_behind (h : z_H) (mo s : Int) : Int := z_find (fun p => tb (h (mo + 1) p) s) 20
/-- f 0 or f 1 or .. -/
def z_orf (f : Int → Int) : Nat → Int
  | 0 => 0
  | n + 1 => z_or (z_orf f n) (f (n : Int))
def c_box (h : z_H) (pl mo : Int) : Int := z_and (z_shl 1 (h pl 4) - 1) (z_xor (z_orf (h (mo + 1)) 20) (-1))
def c_lost (h : z_H) (pl mo : Int) : Int := h pl 3 * (if 0 < h pl 2 - 2 * h mo 2 then h pl 2 - 2 * h mo 2 else 0)
/-- LIGHT, were it so that pane q lets v through -/
def c_lightIf (h : z_H) (pl mo t k q v : Int) : Int := z_or (if c_own h pl mo t k = q then v else c_lets h pl mo (c_own h pl mo t k)) (if c_mir h pl mo t k = q then v else c_lets h pl mo (c_mir h pl mo t k))
theorem c_own_rng {h : z_H} {pl mo t k : Int} (hS : c_Sc h pl mo) : -1 ≤ c_own h pl mo t k ∧ c_own h pl mo t k < 20 := by
  unfold c_own
  split
  · omega
  · exact c_paneAt_rng hS.2.2.2.1.2.2.2.2.2.1.2 hS.2.2.2.1.2.2.2.2.2.2.1.2
theorem c_mir_rng {h : z_H} {pl mo t k : Int} (hS : c_Sc h pl mo) : -1 ≤ c_mir h pl mo t k ∧ c_mir h pl mo t k < 20 := by
  unfold c_mir
  split
  · omega
  · exact c_paneAt_rng hS.2.2.2.1.2.2.2.2.2.1.2 hS.2.2.2.1.2.2.2.2.2.2.1.2
end
section
/-! Scene: what it answers -/
set_option maxHeartbeats 4000000 in
set_option maxRecDepth 100000 in
theorem ct_X5_paneAt {h : z_H} {pl mo : Int} (hS : c_Sc h pl mo) {x y : Int} (hx : z_R x) (hy : z_R y) : z_Ct mX5_paneAt 107 [(2, 3), (0, x), (0, y)] h (z_pure (0, c_paneAt h pl x y) h) := by
  refine z_mk (L := [(2, 3), (0, x), (0, y), (9, 0)]) oX5_paneAt.2.2.2.2 (Nat.le_of_ble_eq_true rfl) rfl ?_
  intro Γ X hQ
  obtain ⟨r30, r31, r42, ⟨kp, rp0, rp1, kp1, kp2, hw, hh, hs, hgl, hpi⟩, ⟨km, rm0, km1, hbr, hmi, hse, hbf⟩⟩ := id hS
  obtain ⟨hx1, hx2⟩ := hx
  obtain ⟨hy1, hy2⟩ := hy
  refine V_iload_n (pc := 0) X dX5_paneAt_0 rfl ?_
  refine V_if_lt (pc := 1) X 34 dX5_paneAt_1 (by decide) ⟨by omega, by omega⟩ (fun c_1 => ?_) (fun c_1 => ?_)
  · skip
    refine V_iconst (pc := 34) X dX5_paneAt_34 ?_
    refine V_istore_n (pc := 35) X dX5_paneAt_35 (by exact Nat.le_of_ble_eq_true rfl) rfl ?_
    refine V_iload_n (pc := 36) X dX5_paneAt_36 rfl ?_
    refine V_if_eq (pc := 37) X 48 dX5_paneAt_37 (by decide) ⟨by omega, by omega⟩ (fun c_37 => ?_) (fun c_37 => absurd c_37 (by decide))
    refine V_iconst (pc := 48) X dX5_paneAt_48 ?_
    refine V_iret (st := []) (pc := 49) X hQ dX5_paneAt_49 rfl rfl ?_
    exact z_pi (by unfold c_paneAt; first | (rw [if_pos (by omega)]; done) | (rw [if_neg (by omega)]))
  · skip
    refine V_iload_n (pc := 4) X dX5_paneAt_4 rfl ?_
    refine V_aload_n (pc := 5) X dX5_paneAt_5 rfl (by first | decide | omega | assumption) ?_
    refine V_gz (pc := 6) X dX5_paneAt_6 f_RX5_21 (by first | rfl | assumption | (simp only [*]; done) | omega) 1 rfl r31 ?_
    refine V_gz (pc := 9) X dX5_paneAt_9 f_RX5_25 (by first | rfl | assumption | (simp only [*]; done) | omega) 2 rfl rfl ?_
    refine V_icmp_ge (pc := 12) X 34 dX5_paneAt_12 (by decide) ⟨by omega, by omega⟩ ⟨by omega, by omega⟩ (fun c_12 => ?_) (fun c_12 => ?_)
    · skip
      refine V_iconst (pc := 34) X dX5_paneAt_34 ?_
      refine V_istore_n (pc := 35) X dX5_paneAt_35 (by exact Nat.le_of_ble_eq_true rfl) rfl ?_
      refine V_iload_n (pc := 36) X dX5_paneAt_36 rfl ?_
      refine V_if_eq (pc := 37) X 48 dX5_paneAt_37 (by decide) ⟨by omega, by omega⟩ (fun c_37 => ?_) (fun c_37 => absurd c_37 (by decide))
      refine V_iconst (pc := 48) X dX5_paneAt_48 ?_
      refine V_iret (st := []) (pc := 49) X hQ dX5_paneAt_49 rfl rfl ?_
      exact z_pi (by unfold c_paneAt; first | (rw [if_pos (by omega)]; done) | (rw [if_neg (by omega)]))
    · skip
      refine V_iload_n (pc := 15) X dX5_paneAt_15 rfl ?_
      refine V_if_lt (pc := 16) X 34 dX5_paneAt_16 (by decide) ⟨by omega, by omega⟩ (fun c_16 => ?_) (fun c_16 => ?_)
      · skip
        refine V_iconst (pc := 34) X dX5_paneAt_34 ?_
        refine V_istore_n (pc := 35) X dX5_paneAt_35 (by exact Nat.le_of_ble_eq_true rfl) rfl ?_
        refine V_iload_n (pc := 36) X dX5_paneAt_36 rfl ?_
        refine V_if_eq (pc := 37) X 48 dX5_paneAt_37 (by decide) ⟨by omega, by omega⟩ (fun c_37 => ?_) (fun c_37 => absurd c_37 (by decide))
        refine V_iconst (pc := 48) X dX5_paneAt_48 ?_
        refine V_iret (st := []) (pc := 49) X hQ dX5_paneAt_49 rfl rfl ?_
        exact z_pi (by unfold c_paneAt; first | (rw [if_pos (by omega)]; done) | (rw [if_neg (by omega)]))
      · skip
        refine V_iload_n (pc := 19) X dX5_paneAt_19 rfl ?_
        refine V_aload_n (pc := 20) X dX5_paneAt_20 rfl (by first | decide | omega | assumption) ?_
        refine V_gz (pc := 21) X dX5_paneAt_21 f_RX5_21 (by first | rfl | assumption | (simp only [*]; done) | omega) 1 rfl r31 ?_
        refine V_gz (pc := 24) X dX5_paneAt_24 f_RX5_29 (by first | rfl | assumption | (simp only [*]; done) | omega) 3 rfl rfl ?_
        refine V_icmp_ge (pc := 27) X 34 dX5_paneAt_27 (by decide) ⟨by omega, by omega⟩ ⟨by omega, by omega⟩ (fun c_27 => ?_) (fun c_27 => ?_)
        · skip
          refine V_iconst (pc := 34) X dX5_paneAt_34 ?_
          refine V_istore_n (pc := 35) X dX5_paneAt_35 (by exact Nat.le_of_ble_eq_true rfl) rfl ?_
          refine V_iload_n (pc := 36) X dX5_paneAt_36 rfl ?_
          refine V_if_eq (pc := 37) X 48 dX5_paneAt_37 (by decide) ⟨by omega, by omega⟩ (fun c_37 => ?_) (fun c_37 => absurd c_37 (by decide))
          refine V_iconst (pc := 48) X dX5_paneAt_48 ?_
          refine V_iret (st := []) (pc := 49) X hQ dX5_paneAt_49 rfl rfl ?_
          exact z_pi (by unfold c_paneAt; first | (rw [if_pos (by omega)]; done) | (rw [if_neg (by omega)]))
        · skip
          refine V_iconst (pc := 30) X dX5_paneAt_30 ?_
          refine V_goto (pc := 31) X 35 dX5_paneAt_31 (by decide) ?_
          refine V_istore_n (pc := 35) X dX5_paneAt_35 (by exact Nat.le_of_ble_eq_true rfl) rfl ?_
          refine V_iload_n (pc := 36) X dX5_paneAt_36 rfl ?_
          refine V_if_eq (pc := 37) X 48 dX5_paneAt_37 (by decide) ⟨by omega, by omega⟩ (fun c_37 => absurd c_37 (by decide)) (fun c_37 => ?_)
          refine V_iconst (pc := 40) X dX5_paneAt_40 ?_
          refine V_iload_n (pc := 41) X dX5_paneAt_41 rfl ?_
          refine V_imul (pc := 42) X dX5_paneAt_42 ?_
          refine V_iload_n (pc := 43) X dX5_paneAt_43 rfl ?_
          refine V_iadd (pc := 44) X dX5_paneAt_44 ?_
          refine V_goto (pc := 45) X 49 dX5_paneAt_45 (by decide) ?_
          refine V_iret (st := []) (pc := 49) X hQ dX5_paneAt_49 rfl rfl ?_
          exact z_pi (by unfold c_paneAt; first | (rw [if_pos (by omega)]; done) | (rw [if_neg (by omega)]))
set_option maxHeartbeats 4000000 in
set_option maxRecDepth 100000 in
theorem ct_X5_hasPane {h : z_H} {pl mo : Int} (hS : c_Sc h pl mo) {p : Int} (h0 : 0 ≤ p) (h1 : p < 20) : z_Ct mX5_hasPane 107 [(2, 3), (0, p)] h (z_pure (0, z_b (c_has h pl p)) h) := by
  refine z_mk (L := [(2, 3), (0, p)]) oX5_hasPane.2.2.2.2 (Nat.le_of_ble_eq_true rfl) rfl ?_
  intro Γ X hQ
  obtain ⟨r30, r31, r42, ⟨kp, rp0, rp1, kp1, kp2, hw, hh, hs, hgl, hpi⟩, ⟨km, rm0, km1, hbr, hmi, hse, hbf⟩⟩ := id hS
  have hg := c_paneAt_rng (h := h) (pl := pl) (x := p / 4) (y := p % 4) hw.2 hh.2
  refine V_aload_n (pc := 0) X dX5_hasPane_0 rfl (by first | decide | omega | assumption) ?_
  refine V_iload_n (pc := 1) X dX5_hasPane_1 rfl ?_
  refine V_iconst (pc := 2) X dX5_hasPane_2 ?_
  refine V_idivN (pc := 3) X dX5_hasPane_3 (by omega) (by omega) (by omega) (by omega) ?_
  refine V_iload_n (pc := 4) X dX5_hasPane_4 rfl ?_
  refine V_iconst (pc := 5) X dX5_hasPane_5 ?_
  refine V_iremN (pc := 6) X dX5_hasPane_6 (by omega) (by omega) (by omega) (by omega) ?_
  refine V_FV (pc := 7) X dX5_hasPane_7 oX5_paneAt l_RX5_32 eX5_paneAt vX5_paneAt ⟨Nat.le_of_ble_eq_true rfl, Nat.le_of_ble_eq_true rfl⟩ ⟨rfl, rfl⟩ ⟨Nat.le_of_ble_eq_true rfl, Nat.le_of_ble_eq_true rfl⟩ (ct_X5_paneAt hS ⟨by omega, by omega⟩ ⟨by omega, by omega⟩) rfl (by first | rfl | assumption | (simp only [*]; done) | omega) (by intro q h; cases h; rfl) rfl (by rfl) (by exact Nat.le_of_ble_eq_true rfl) ?_
  refine V_iconst (pc := 10) X dX5_hasPane_10 ?_
  refine V_icmp_eq (pc := 11) X 18 dX5_hasPane_11 (by decide) ⟨by omega, by omega⟩ ⟨by omega, by omega⟩ (fun c_11 => ?_) (fun c_11 => ?_)
  · skip
    refine V_iconst (pc := 18) X dX5_hasPane_18 ?_
    refine V_zret (st := []) (pc := 19) X hQ dX5_hasPane_19 rfl (by omega) rfl ?_
    exact z_pi (by simp [z_b, c_has, *])
  · skip
    refine V_iconst (pc := 14) X dX5_hasPane_14 ?_
    refine V_goto (pc := 15) X 19 dX5_hasPane_15 (by decide) ?_
    refine V_zret (st := []) (pc := 19) X hQ dX5_hasPane_19 rfl (by omega) rfl ?_
    exact z_pi (by simp [z_b, c_has, *])
set_option maxHeartbeats 4000000 in
set_option maxRecDepth 100000 in
theorem ct_X5_isBroken {h : z_H} {pl mo : Int} (hS : c_Sc h pl mo) {p : Int} (h0 : 0 ≤ p) (h1 : p < 20) : z_Ct mX5_isBroken 107 [(2, 3), (0, p)] h (z_pure (0, z_b (c_broken h mo p)) h) := by
  refine z_mk (L := [(2, 3), (0, p)]) oX5_isBroken.2.2.2.2 (Nat.le_of_ble_eq_true rfl) rfl ?_
  intro Γ X hQ
  obtain ⟨r30, r31, r42, ⟨kp, rp0, rp1, kp1, kp2, hw, hh, hs, hgl, hpi⟩, ⟨km, rm0, km1, hbr, hmi, hse, hbf⟩⟩ := id hS
  refine V_aload_n (pc := 0) X dX5_isBroken_0 rfl (by first | decide | omega | assumption) ?_
  refine V_gz (pc := 1) X dX5_isBroken_1 f_RX5_12 (by first | rfl | assumption | (simp only [*]; done) | omega) 0 rfl r30 ?_
  refine V_gz (pc := 4) X dX5_isBroken_4 f_RX5_36 (by first | rfl | assumption | (simp only [*]; done) | omega) 2 rfl r42 ?_
  refine V_gz (pc := 7) X dX5_isBroken_7 f_RX5_40 (by first | rfl | assumption | (simp only [*]; done) | omega) 1 rfl rfl ?_
  refine V_iload_n (pc := 10) X dX5_isBroken_10 rfl ?_
  refine V_ishr (pc := 11) X dX5_isBroken_11 ?_
  refine V_iconst (pc := 12) X dX5_isBroken_12 ?_
  refine V_iand (pc := 13) X dX5_isBroken_13 ?_
  rw [z_bitb (by omega) (by omega) (by omega) (by omega)]
  refine V_if_eq (pc := 14) X 21 dX5_isBroken_14 (by decide) (z_b_rng _) (fun c_14 => ?_) (fun c_14 => ?_)
  · skip
    refine V_iconst (pc := 21) X dX5_isBroken_21 ?_
    refine V_zret (st := []) (pc := 22) X hQ dX5_isBroken_22 rfl (by omega) rfl ?_
    exact z_pi (by first | exact (z_b_1.mpr (z_b_n0.mp c_14)).symm | exact c_14.symm)
  · skip
    refine V_iconst (pc := 17) X dX5_isBroken_17 ?_
    refine V_goto (pc := 18) X 22 dX5_isBroken_18 (by decide) ?_
    refine V_zret (st := []) (pc := 22) X hQ dX5_isBroken_22 rfl (by omega) rfl ?_
    exact z_pi (by first | exact (z_b_1.mpr (z_b_n0.mp c_14)).symm | exact c_14.symm)
set_option maxHeartbeats 4000000 in
set_option maxRecDepth 100000 in
theorem ct_X5_colourNow {h : z_H} {pl mo : Int} (hS : c_Sc h pl mo) {p : Int} (h0 : 0 ≤ p) (h1 : p < 20) : z_Ct mX5_colourNow 107 [(2, 3), (0, p)] h (z_pure (0, c_colour h pl mo p) h) := by
  refine z_mk (L := [(2, 3), (0, p)]) oX5_colourNow.2.2.2.2 (Nat.le_of_ble_eq_true rfl) rfl ?_
  intro Γ X hQ
  obtain ⟨r30, r31, r42, ⟨kp, rp0, rp1, kp1, kp2, hw, hh, hs, hgl, hpi⟩, ⟨km, rm0, km1, hbr, hmi, hse, hbf⟩⟩ := id hS
  refine V_aload_n (pc := 0) X dX5_colourNow_0 rfl (by first | decide | omega | assumption) ?_
  refine V_iload_n (pc := 1) X dX5_colourNow_1 rfl ?_
  refine V_FV (pc := 2) X dX5_colourNow_2 oX5_isBroken l_RX5_45 eX5_isBroken vX5_isBroken ⟨Nat.le_of_ble_eq_true rfl, Nat.le_of_ble_eq_true rfl⟩ ⟨rfl, rfl⟩ ⟨Nat.le_of_ble_eq_true rfl, Nat.le_of_ble_eq_true rfl⟩ (ct_X5_isBroken hS (by omega) (by omega)) rfl (by first | rfl | assumption | (simp only [*]; done) | omega) (by intro q h; cases h; rfl) rfl (by rfl) (by exact Nat.le_of_ble_eq_true rfl) ?_
  refine V_bif_eq (pc := 5) X 13 dX5_colourNow_5 (by decide)  (fun c_5 => ?_) (fun c_5 => ?_)
  · skip
    refine V_aload_n (pc := 13) X dX5_colourNow_13 rfl (by first | decide | omega | assumption) ?_
    refine V_gz (pc := 14) X dX5_colourNow_14 f_RX5_21 (by first | rfl | assumption | (simp only [*]; done) | omega) 1 rfl r31 ?_
    refine V_gz (pc := 17) X dX5_colourNow_17 f_RX5_49 (by first | rfl | assumption | (simp only [*]; done) | omega) 0 rfl rp0 ?_
    refine V_iload_n (pc := 20) X dX5_colourNow_20 rfl ?_
    refine V_iald (pc := 21) X dX5_colourNow_21 (by first | rfl | assumption | (simp only [*]; done) | omega) (by omega) (by omega) (by decide) ?_
    refine V_iret (st := []) (pc := 22) X hQ dX5_colourNow_22 rfl rfl ?_
    exact z_pi (by simp [c_colour, *])
  · skip
    refine V_bipush (pc := 8) X dX5_colourNow_8 (by decide) ?_
    refine V_goto (pc := 10) X 22 dX5_colourNow_10 (by decide) ?_
    refine V_iret (st := []) (pc := 22) X hQ dX5_colourNow_22 rfl rfl ?_
    exact z_pi (by simp [c_colour, *])
set_option maxHeartbeats 4000000 in
set_option maxRecDepth 100000 in
theorem ct_X5_letsThrough {h : z_H} {pl mo : Int} (hS : c_Sc h pl mo) {p : Int} (h0 : -1 ≤ p) (h1 : p < 20) : z_Ct mX5_letsThrough 107 [(2, 3), (0, p)] h (z_pure (0, c_lets h pl mo p) h) := by
  refine z_mk (L := [(2, 3), (0, p)]) oX5_letsThrough.2.2.2.2 (Nat.le_of_ble_eq_true rfl) rfl ?_
  intro Γ X hQ
  obtain ⟨r30, r31, r42, ⟨kp, rp0, rp1, kp1, kp2, hw, hh, hs, hgl, hpi⟩, ⟨km, rm0, km1, hbr, hmi, hse, hbf⟩⟩ := id hS
  refine V_iload_n (pc := 0) X dX5_letsThrough_0 rfl ?_
  refine V_iconst (pc := 1) X dX5_letsThrough_1 ?_
  refine V_icmp_ne (pc := 2) X 9 dX5_letsThrough_2 (by decide) ⟨by omega, by omega⟩ ⟨by omega, by omega⟩ (fun c_2 => ?_) (fun c_2 => ?_)
  · skip
    refine V_aload_n (pc := 9) X dX5_letsThrough_9 rfl (by first | decide | omega | assumption) ?_
    refine V_iload_n (pc := 10) X dX5_letsThrough_10 rfl ?_
    refine V_FV (pc := 11) X dX5_letsThrough_11 oX5_colourNow l_RX5_53 eX5_colourNow vX5_colourNow ⟨Nat.le_of_ble_eq_true rfl, Nat.le_of_ble_eq_true rfl⟩ ⟨rfl, rfl⟩ ⟨Nat.le_of_ble_eq_true rfl, Nat.le_of_ble_eq_true rfl⟩ (ct_X5_colourNow hS (by omega) (by omega)) rfl (by first | rfl | assumption | (simp only [*]; done) | omega) (by intro q h; cases h; rfl) rfl (by rfl) (by exact Nat.le_of_ble_eq_true rfl) ?_
    refine V_aload_n (pc := 14) X dX5_letsThrough_14 rfl (by first | decide | omega | assumption) ?_
    refine V_gz (pc := 15) X dX5_letsThrough_15 f_RX5_21 (by first | rfl | assumption | (simp only [*]; done) | omega) 1 rfl r31 ?_
    refine V_gz (pc := 18) X dX5_letsThrough_18 f_RX5_57 (by first | rfl | assumption | (simp only [*]; done) | omega) 1 rfl rp1 ?_
    refine V_aload_n (pc := 21) X dX5_letsThrough_21 rfl (by first | decide | omega | assumption) ?_
    refine V_gz (pc := 22) X dX5_letsThrough_22 f_RX5_12 (by first | rfl | assumption | (simp only [*]; done) | omega) 0 rfl r30 ?_
    refine V_gz (pc := 25) X dX5_letsThrough_25 f_RX5_36 (by first | rfl | assumption | (simp only [*]; done) | omega) 2 rfl r42 ?_
    refine V_gz (pc := 28) X dX5_letsThrough_28 f_RX5_60 (by first | rfl | assumption | (simp only [*]; done) | omega) 0 rfl rm0 ?_
    refine V_iload_n (pc := 31) X dX5_letsThrough_31 rfl ?_
    have hbp := hbf p (by omega) (by omega)
    refine V_iald (pc := 32) X dX5_letsThrough_32 (by first | rfl | assumption | (simp only [*]; done) | omega) (by omega) (by omega) (by decide) ?_
    refine V_iald (pc := 33) X dX5_letsThrough_33 (by first | rfl | assumption | (simp only [*]; done) | omega) (by omega) (by omega) (by decide) ?_
    refine V_iand (pc := 34) X dX5_letsThrough_34 ?_
    refine V_iret (st := []) (pc := 35) X hQ dX5_letsThrough_35 rfl rfl ?_
    exact z_pi (by simp [c_lets, *])
  · skip
    refine V_iconst (pc := 5) X dX5_letsThrough_5 ?_
    refine V_goto (pc := 6) X 35 dX5_letsThrough_6 (by decide) ?_
    refine V_iret (st := []) (pc := 35) X hQ dX5_letsThrough_35 rfl rfl ?_
    exact z_pi (by simp [c_lets, *])
set_option maxHeartbeats 4000000 in
set_option maxRecDepth 100000 in
theorem ct_X5_paneByItself {h : z_H} {pl mo : Int} (hS : c_Sc h pl mo) {t k : Int} (h0 : 0 ≤ t) (h1 : t < 84) (h2 : 0 ≤ k) (h3 : k < 8) : z_Ct mX5_paneByItself 107 [(2, 3), (0, t), (0, k)] h (z_pure (0, c_own h pl mo t k) h) := by
  refine z_mk (L := [(2, 3), (0, t), (0, k), (9, 0)]) oX5_paneByItself.2.2.2.2 (Nat.le_of_ble_eq_true rfl) rfl ?_
  intro Γ X hQ
  obtain ⟨r30, r31, r42, ⟨kp, rp0, rp1, kp1, kp2, hw, hh, hs, hgl, hpi⟩, ⟨km, rm0, km1, hbr, hmi, hse, hbf⟩⟩ := id hS
  refine V_iload_n (pc := 0) X dX5_paneByItself_0 rfl ?_
  refine V_bipush (pc := 1) X dX5_paneByItself_1 (by decide) ?_
  refine V_idivN (pc := 3) X dX5_paneByItself_3 (by omega) (by omega) (by omega) (by omega) ?_
  refine V_istore_n (pc := 4) X dX5_paneByItself_4 (by exact Nat.le_of_ble_eq_true rfl) rfl ?_
  refine V_iload_n (pc := 5) X dX5_paneByItself_5 rfl ?_
  refine V_aload_n (pc := 6) X dX5_paneByItself_6 rfl (by first | decide | omega | assumption) ?_
  refine V_gz (pc := 7) X dX5_paneByItself_7 f_RX5_12 (by first | rfl | assumption | (simp only [*]; done) | omega) 0 rfl r30 ?_
  refine V_gz (pc := 10) X dX5_paneByItself_10 f_RX5_36 (by first | rfl | assumption | (simp only [*]; done) | omega) 2 rfl r42 ?_
  refine V_gz (pc := 13) X dX5_paneByItself_13 f_RX5_71 (by first | rfl | assumption | (simp only [*]; done) | omega) 2 rfl rfl ?_
  refine V_icmp_lt (pc := 16) X 21 dX5_paneByItself_16 (by decide) ⟨by omega, by omega⟩ ⟨by omega, by omega⟩ (fun c_16 => ?_) (fun c_16 => ?_)
  · skip
    refine V_aload_n (pc := 21) X dX5_paneByItself_21 rfl (by first | decide | omega | assumption) ?_
    refine V_iload_n (pc := 22) X dX5_paneByItself_22 rfl ?_
    refine V_iload_n (pc := 23) X dX5_paneByItself_23 rfl ?_
    refine V_isub (pc := 24) X dX5_paneByItself_24 ?_
    refine V_iload_n (pc := 25) X dX5_paneByItself_25 rfl ?_
    refine V_bipush (pc := 26) X dX5_paneByItself_26 (by decide) ?_
    refine V_iremN (pc := 28) X dX5_paneByItself_28 (by omega) (by omega) (by omega) (by omega) ?_
    refine V_aload_n (pc := 29) X dX5_paneByItself_29 rfl (by first | decide | omega | assumption) ?_
    refine V_gz (pc := 30) X dX5_paneByItself_30 f_RX5_12 (by first | rfl | assumption | (simp only [*]; done) | omega) 0 rfl r30 ?_
    refine V_gz (pc := 33) X dX5_paneByItself_33 f_RX5_36 (by first | rfl | assumption | (simp only [*]; done) | omega) 2 rfl r42 ?_
    refine V_gz (pc := 36) X dX5_paneByItself_36 f_RX5_79 (by first | rfl | assumption | (simp only [*]; done) | omega) 3 rfl rfl ?_
    refine V_isub (pc := 39) X dX5_paneByItself_39 ?_
    refine V_FV (pc := 40) X dX5_paneByItself_40 oX5_paneAt l_RX5_32 eX5_paneAt vX5_paneAt ⟨Nat.le_of_ble_eq_true rfl, Nat.le_of_ble_eq_true rfl⟩ ⟨rfl, rfl⟩ ⟨Nat.le_of_ble_eq_true rfl, Nat.le_of_ble_eq_true rfl⟩ (ct_X5_paneAt hS ⟨by omega, by omega⟩ ⟨by omega, by omega⟩) rfl (by first | rfl | assumption | (simp only [*]; done) | omega) (by intro q h; cases h; rfl) rfl (by rfl) (by exact Nat.le_of_ble_eq_true rfl) ?_
    refine V_iret (st := []) (pc := 43) X hQ dX5_paneByItself_43 rfl rfl ?_
    exact z_pi (by unfold c_own; first | (rw [if_pos (by omega)]; done) | (rw [if_neg (by omega)]))
  · skip
    refine V_iconst (pc := 19) X dX5_paneByItself_19 ?_
    refine V_iret (st := []) (pc := 20) X hQ dX5_paneByItself_20 rfl rfl ?_
    exact z_pi (by unfold c_own; first | (rw [if_pos (by omega)]; done) | (rw [if_neg (by omega)]))
set_option maxHeartbeats 4000000 in
set_option maxRecDepth 100000 in
theorem ct_X5_paneByMirror {h : z_H} {pl mo : Int} (hS : c_Sc h pl mo) {t k : Int} (h0 : 0 ≤ t) (h1 : t < 84) (h2 : 0 ≤ k) (h3 : k < 8) : z_Ct mX5_paneByMirror 107 [(2, 3), (0, t), (0, k)] h (z_pure (0, c_mir h pl mo t k) h) := by
  refine z_mk (L := [(2, 3), (0, t), (0, k), (9, 0), (9, 0)]) oX5_paneByMirror.2.2.2.2 (Nat.le_of_ble_eq_true rfl) rfl ?_
  intro Γ X hQ
  obtain ⟨r30, r31, r42, ⟨kp, rp0, rp1, kp1, kp2, hw, hh, hs, hgl, hpi⟩, ⟨km, rm0, km1, hbr, hmi, hse, hbf⟩⟩ := id hS
  refine V_iload_n (pc := 0) X dX5_paneByMirror_0 rfl ?_
  refine V_bipush (pc := 1) X dX5_paneByMirror_1 (by decide) ?_
  refine V_idivN (pc := 3) X dX5_paneByMirror_3 (by omega) (by omega) (by omega) (by omega) ?_
  refine V_istore_n (pc := 4) X dX5_paneByMirror_4 (by exact Nat.le_of_ble_eq_true rfl) rfl ?_
  refine V_iload_n (pc := 5) X dX5_paneByMirror_5 rfl ?_
  refine V_aload_n (pc := 6) X dX5_paneByMirror_6 rfl (by first | decide | omega | assumption) ?_
  refine V_gz (pc := 7) X dX5_paneByMirror_7 f_RX5_12 (by first | rfl | assumption | (simp only [*]; done) | omega) 0 rfl r30 ?_
  refine V_gz (pc := 10) X dX5_paneByMirror_10 f_RX5_36 (by first | rfl | assumption | (simp only [*]; done) | omega) 2 rfl r42 ?_
  refine V_gz (pc := 13) X dX5_paneByMirror_13 f_RX5_71 (by first | rfl | assumption | (simp only [*]; done) | omega) 2 rfl rfl ?_
  refine V_icmp_lt (pc := 16) X 21 dX5_paneByMirror_16 (by decide) ⟨by omega, by omega⟩ ⟨by omega, by omega⟩ (fun c_16 => ?_) (fun c_16 => ?_)
  · skip
    refine V_iconst (pc := 21) X dX5_paneByMirror_21 ?_
    refine V_aload_n (pc := 22) X dX5_paneByMirror_22 rfl (by first | decide | omega | assumption) ?_
    refine V_gz (pc := 23) X dX5_paneByMirror_23 f_RX5_12 (by first | rfl | assumption | (simp only [*]; done) | omega) 0 rfl r30 ?_
    refine V_gz (pc := 26) X dX5_paneByMirror_26 f_RX5_36 (by first | rfl | assumption | (simp only [*]; done) | omega) 2 rfl r42 ?_
    refine V_gz (pc := 29) X dX5_paneByMirror_29 f_RX5_71 (by first | rfl | assumption | (simp only [*]; done) | omega) 2 rfl rfl ?_
    refine V_imul (pc := 32) X dX5_paneByMirror_32 ?_
    refine V_iconst (pc := 33) X dX5_paneByMirror_33 ?_
    refine V_isub (pc := 34) X dX5_paneByMirror_34 ?_
    refine V_iload_n (pc := 35) X dX5_paneByMirror_35 rfl ?_
    refine V_isub (pc := 36) X dX5_paneByMirror_36 ?_
    refine V_istore (pc := 37) X dX5_paneByMirror_37 (by exact Nat.le_of_ble_eq_true rfl) rfl ?_
    refine V_aload_n (pc := 39) X dX5_paneByMirror_39 rfl (by first | decide | omega | assumption) ?_
    refine V_iload (pc := 40) X dX5_paneByMirror_40 rfl ?_
    refine V_iload_n (pc := 42) X dX5_paneByMirror_42 rfl ?_
    refine V_isub (pc := 43) X dX5_paneByMirror_43 ?_
    refine V_iload_n (pc := 44) X dX5_paneByMirror_44 rfl ?_
    refine V_bipush (pc := 45) X dX5_paneByMirror_45 (by decide) ?_
    refine V_iremN (pc := 47) X dX5_paneByMirror_47 (by omega) (by omega) (by omega) (by omega) ?_
    refine V_aload_n (pc := 48) X dX5_paneByMirror_48 rfl (by first | decide | omega | assumption) ?_
    refine V_gz (pc := 49) X dX5_paneByMirror_49 f_RX5_12 (by first | rfl | assumption | (simp only [*]; done) | omega) 0 rfl r30 ?_
    refine V_gz (pc := 52) X dX5_paneByMirror_52 f_RX5_36 (by first | rfl | assumption | (simp only [*]; done) | omega) 2 rfl r42 ?_
    refine V_gz (pc := 55) X dX5_paneByMirror_55 f_RX5_79 (by first | rfl | assumption | (simp only [*]; done) | omega) 3 rfl rfl ?_
    refine V_isub (pc := 58) X dX5_paneByMirror_58 ?_
    refine V_FV (pc := 59) X dX5_paneByMirror_59 oX5_paneAt l_RX5_32 eX5_paneAt vX5_paneAt ⟨Nat.le_of_ble_eq_true rfl, Nat.le_of_ble_eq_true rfl⟩ ⟨rfl, rfl⟩ ⟨Nat.le_of_ble_eq_true rfl, Nat.le_of_ble_eq_true rfl⟩ (ct_X5_paneAt hS ⟨by omega, by omega⟩ ⟨by omega, by omega⟩) rfl (by first | rfl | assumption | (simp only [*]; done) | omega) (by intro q h; cases h; rfl) rfl (by rfl) (by exact Nat.le_of_ble_eq_true rfl) ?_
    refine V_iret (st := []) (pc := 62) X hQ dX5_paneByMirror_62 rfl rfl ?_
    exact z_pi (by unfold c_mir; first | (rw [if_pos (by omega)]; done) | (rw [if_neg (by omega)]))
  · skip
    refine V_iconst (pc := 19) X dX5_paneByMirror_19 ?_
    refine V_iret (st := []) (pc := 20) X hQ dX5_paneByMirror_20 rfl rfl ?_
    exact z_pi (by unfold c_mir; first | (rw [if_pos (by omega)]; done) | (rw [if_neg (by omega)]))
set_option maxHeartbeats 4000000 in
set_option maxRecDepth 100000 in
theorem ct_X5_lightOf {h : z_H} {pl mo : Int} (hS : c_Sc h pl mo) {t k : Int} (h0 : 0 ≤ t) (h1 : t < 84) (h2 : 0 ≤ k) (h3 : k < 8) : z_Ct mX5_lightOf 107 [(2, 3), (0, t), (0, k)] h (z_pure (0, c_light h pl mo t k) h) := by
  refine z_mk (L := [(2, 3), (0, t), (0, k)]) oX5_lightOf.2.2.2.2 (Nat.le_of_ble_eq_true rfl) rfl ?_
  intro Γ X hQ
  obtain ⟨r30, r31, r42, ⟨kp, rp0, rp1, kp1, kp2, hw, hh, hs, hgl, hpi⟩, ⟨km, rm0, km1, hbr, hmi, hse, hbf⟩⟩ := id hS
  have g1 := c_own_rng (t := t) (k := k) hS
  have g2 := c_mir_rng (t := t) (k := k) hS
  refine V_aload_n (pc := 0) X dX5_lightOf_0 rfl (by first | decide | omega | assumption) ?_
  refine V_aload_n (pc := 1) X dX5_lightOf_1 rfl (by first | decide | omega | assumption) ?_
  refine V_iload_n (pc := 2) X dX5_lightOf_2 rfl ?_
  refine V_iload_n (pc := 3) X dX5_lightOf_3 rfl ?_
  refine V_FV (pc := 4) X dX5_lightOf_4 oX5_paneByItself l_RX5_82 eX5_paneByItself vX5_paneByItself ⟨Nat.le_of_ble_eq_true rfl, Nat.le_of_ble_eq_true rfl⟩ ⟨rfl, rfl⟩ ⟨Nat.le_of_ble_eq_true rfl, Nat.le_of_ble_eq_true rfl⟩ (ct_X5_paneByItself hS (by omega) (by omega) (by omega) (by omega)) rfl (by first | rfl | assumption | (simp only [*]; done) | omega) (by intro q h; cases h; rfl) rfl (by rfl) (by exact Nat.le_of_ble_eq_true rfl) ?_
  refine V_FV (pc := 7) X dX5_lightOf_7 oX5_letsThrough l_RX5_85 eX5_letsThrough vX5_letsThrough ⟨Nat.le_of_ble_eq_true rfl, Nat.le_of_ble_eq_true rfl⟩ ⟨rfl, rfl⟩ ⟨Nat.le_of_ble_eq_true rfl, Nat.le_of_ble_eq_true rfl⟩ (ct_X5_letsThrough hS (by omega) (by omega)) rfl (by first | rfl | assumption | (simp only [*]; done) | omega) (by intro q h; cases h; rfl) rfl (by rfl) (by exact Nat.le_of_ble_eq_true rfl) ?_
  refine V_aload_n (pc := 10) X dX5_lightOf_10 rfl (by first | decide | omega | assumption) ?_
  refine V_aload_n (pc := 11) X dX5_lightOf_11 rfl (by first | decide | omega | assumption) ?_
  refine V_iload_n (pc := 12) X dX5_lightOf_12 rfl ?_
  refine V_iload_n (pc := 13) X dX5_lightOf_13 rfl ?_
  refine V_FV (pc := 14) X dX5_lightOf_14 oX5_paneByMirror l_RX5_88 eX5_paneByMirror vX5_paneByMirror ⟨Nat.le_of_ble_eq_true rfl, Nat.le_of_ble_eq_true rfl⟩ ⟨rfl, rfl⟩ ⟨Nat.le_of_ble_eq_true rfl, Nat.le_of_ble_eq_true rfl⟩ (ct_X5_paneByMirror hS (by omega) (by omega) (by omega) (by omega)) rfl (by first | rfl | assumption | (simp only [*]; done) | omega) (by intro q h; cases h; rfl) rfl (by rfl) (by exact Nat.le_of_ble_eq_true rfl) ?_
  refine V_FV (pc := 17) X dX5_lightOf_17 oX5_letsThrough l_RX5_85 eX5_letsThrough vX5_letsThrough ⟨Nat.le_of_ble_eq_true rfl, Nat.le_of_ble_eq_true rfl⟩ ⟨rfl, rfl⟩ ⟨Nat.le_of_ble_eq_true rfl, Nat.le_of_ble_eq_true rfl⟩ (ct_X5_letsThrough hS (by omega) (by omega)) rfl (by first | rfl | assumption | (simp only [*]; done) | omega) (by intro q h; cases h; rfl) rfl (by rfl) (by exact Nat.le_of_ble_eq_true rfl) ?_
  refine V_ior (pc := 20) X dX5_lightOf_20 ?_
  refine V_iret (st := []) (pc := 21) X hQ dX5_lightOf_21 rfl rfl ?_
  exact z_pi (rfl)
set_option maxHeartbeats 4000000 in
set_option maxRecDepth 100000 in
theorem ct_X5_lightIf {h : z_H} {pl mo : Int} (hS : c_Sc h pl mo) {t k q v : Int} (h0 : 0 ≤ t) (h1 : t < 84) (h2 : 0 ≤ k) (h3 : k < 8) (hq : -1 ≤ q ∧ q < 20) : z_Ct mX5_lightIf 107 [(2, 3), (0, t), (0, k), (0, q), (0, v)] h (z_pure (0, c_lightIf h pl mo t k q v) h) := by
  refine z_mk (L := [(2, 3), (0, t), (0, k), (0, q), (0, v), (9, 0), (9, 0)]) oX5_lightIf.2.2.2.2 (Nat.le_of_ble_eq_true rfl) rfl ?_
  intro Γ X hQ
  obtain ⟨r30, r31, r42, ⟨kp, rp0, rp1, kp1, kp2, hw, hh, hs, hgl, hpi⟩, ⟨km, rm0, km1, hbr, hmi, hse, hbf⟩⟩ := id hS
  have g1 := c_own_rng (t := t) (k := k) hS
  have g2 := c_mir_rng (t := t) (k := k) hS
  refine V_aload_n (pc := 0) X dX5_lightIf_0 rfl (by first | decide | omega | assumption) ?_
  refine V_iload_n (pc := 1) X dX5_lightIf_1 rfl ?_
  refine V_iload_n (pc := 2) X dX5_lightIf_2 rfl ?_
  refine V_FV (pc := 3) X dX5_lightIf_3 oX5_paneByItself l_RX5_82 eX5_paneByItself vX5_paneByItself ⟨Nat.le_of_ble_eq_true rfl, Nat.le_of_ble_eq_true rfl⟩ ⟨rfl, rfl⟩ ⟨Nat.le_of_ble_eq_true rfl, Nat.le_of_ble_eq_true rfl⟩ (ct_X5_paneByItself hS (by omega) (by omega) (by omega) (by omega)) rfl (by first | rfl | assumption | (simp only [*]; done) | omega) (by intro q h; cases h; rfl) rfl (by rfl) (by exact Nat.le_of_ble_eq_true rfl) ?_
  refine V_istore (pc := 6) X dX5_lightIf_6 (by exact Nat.le_of_ble_eq_true rfl) rfl ?_
  refine V_aload_n (pc := 8) X dX5_lightIf_8 rfl (by first | decide | omega | assumption) ?_
  refine V_iload_n (pc := 9) X dX5_lightIf_9 rfl ?_
  refine V_iload_n (pc := 10) X dX5_lightIf_10 rfl ?_
  refine V_FV (pc := 11) X dX5_lightIf_11 oX5_paneByMirror l_RX5_88 eX5_paneByMirror vX5_paneByMirror ⟨Nat.le_of_ble_eq_true rfl, Nat.le_of_ble_eq_true rfl⟩ ⟨rfl, rfl⟩ ⟨Nat.le_of_ble_eq_true rfl, Nat.le_of_ble_eq_true rfl⟩ (ct_X5_paneByMirror hS (by omega) (by omega) (by omega) (by omega)) rfl (by first | rfl | assumption | (simp only [*]; done) | omega) (by intro q h; cases h; rfl) rfl (by rfl) (by exact Nat.le_of_ble_eq_true rfl) ?_
  refine V_istore (pc := 14) X dX5_lightIf_14 (by exact Nat.le_of_ble_eq_true rfl) rfl ?_
  refine V_iload (pc := 16) X dX5_lightIf_16 rfl ?_
  refine V_iload_n (pc := 18) X dX5_lightIf_18 rfl ?_
  refine V_icmp_ne (pc := 19) X 27 dX5_lightIf_19 (by decide) ⟨by omega, by omega⟩ ⟨by omega, by omega⟩ (fun c_19 => ?_) (fun c_19 => ?_)
  · skip
    refine V_aload_n (pc := 27) X dX5_lightIf_27 rfl (by first | decide | omega | assumption) ?_
    refine V_iload (pc := 28) X dX5_lightIf_28 rfl ?_
    refine V_FV (pc := 30) X dX5_lightIf_30 oX5_letsThrough l_RX5_85 eX5_letsThrough vX5_letsThrough ⟨Nat.le_of_ble_eq_true rfl, Nat.le_of_ble_eq_true rfl⟩ ⟨rfl, rfl⟩ ⟨Nat.le_of_ble_eq_true rfl, Nat.le_of_ble_eq_true rfl⟩ (ct_X5_letsThrough hS (by omega) (by omega)) rfl (by first | rfl | assumption | (simp only [*]; done) | omega) (by intro q h; cases h; rfl) rfl (by rfl) (by exact Nat.le_of_ble_eq_true rfl) ?_
    refine V_iload (pc := 33) X dX5_lightIf_33 rfl ?_
    refine V_iload_n (pc := 35) X dX5_lightIf_35 rfl ?_
    refine V_icmp_ne (pc := 36) X 44 dX5_lightIf_36 (by decide) ⟨by omega, by omega⟩ ⟨by omega, by omega⟩ (fun c_36 => ?_) (fun c_36 => ?_)
    · skip
      refine V_aload_n (pc := 44) X dX5_lightIf_44 rfl (by first | decide | omega | assumption) ?_
      refine V_iload (pc := 45) X dX5_lightIf_45 rfl ?_
      refine V_FV (pc := 47) X dX5_lightIf_47 oX5_letsThrough l_RX5_85 eX5_letsThrough vX5_letsThrough ⟨Nat.le_of_ble_eq_true rfl, Nat.le_of_ble_eq_true rfl⟩ ⟨rfl, rfl⟩ ⟨Nat.le_of_ble_eq_true rfl, Nat.le_of_ble_eq_true rfl⟩ (ct_X5_letsThrough hS (by omega) (by omega)) rfl (by first | rfl | assumption | (simp only [*]; done) | omega) (by intro q h; cases h; rfl) rfl (by rfl) (by exact Nat.le_of_ble_eq_true rfl) ?_
      refine V_ior (pc := 50) X dX5_lightIf_50 ?_
      refine V_iret (st := []) (pc := 51) X hQ dX5_lightIf_51 rfl rfl ?_
      exact z_pi (by simp [c_lightIf, *])
    · skip
      refine V_iload (pc := 39) X dX5_lightIf_39 rfl ?_
      refine V_goto (pc := 41) X 50 dX5_lightIf_41 (by decide) ?_
      refine V_ior (pc := 50) X dX5_lightIf_50 ?_
      refine V_iret (st := []) (pc := 51) X hQ dX5_lightIf_51 rfl rfl ?_
      exact z_pi (by simp [c_lightIf, *])
  · skip
    refine V_iload (pc := 22) X dX5_lightIf_22 rfl ?_
    refine V_goto (pc := 24) X 33 dX5_lightIf_24 (by decide) ?_
    refine V_iload (pc := 33) X dX5_lightIf_33 rfl ?_
    refine V_iload_n (pc := 35) X dX5_lightIf_35 rfl ?_
    refine V_icmp_ne (pc := 36) X 44 dX5_lightIf_36 (by decide) ⟨by omega, by omega⟩ ⟨by omega, by omega⟩ (fun c_36 => ?_) (fun c_36 => ?_)
    · skip
      refine V_aload_n (pc := 44) X dX5_lightIf_44 rfl (by first | decide | omega | assumption) ?_
      refine V_iload (pc := 45) X dX5_lightIf_45 rfl ?_
      refine V_FV (pc := 47) X dX5_lightIf_47 oX5_letsThrough l_RX5_85 eX5_letsThrough vX5_letsThrough ⟨Nat.le_of_ble_eq_true rfl, Nat.le_of_ble_eq_true rfl⟩ ⟨rfl, rfl⟩ ⟨Nat.le_of_ble_eq_true rfl, Nat.le_of_ble_eq_true rfl⟩ (ct_X5_letsThrough hS (by omega) (by omega)) rfl (by first | rfl | assumption | (simp only [*]; done) | omega) (by intro q h; cases h; rfl) rfl (by rfl) (by exact Nat.le_of_ble_eq_true rfl) ?_
      refine V_ior (pc := 50) X dX5_lightIf_50 ?_
      refine V_iret (st := []) (pc := 51) X hQ dX5_lightIf_51 rfl rfl ?_
      exact z_pi (by simp [c_lightIf, *])
    · skip
      refine V_iload (pc := 39) X dX5_lightIf_39 rfl ?_
      refine V_goto (pc := 41) X 50 dX5_lightIf_41 (by decide) ?_
      refine V_ior (pc := 50) X dX5_lightIf_50 ?_
      refine V_iret (st := []) (pc := 51) X hQ dX5_lightIf_51 rfl rfl ?_
      exact z_pi (by simp [c_lightIf, *])
set_option maxHeartbeats 4000000 in
set_option maxRecDepth 100000 in
theorem ct_X5_roomBefore {h : z_H} {pl mo : Int} (hS : c_Sc h pl mo) {p : Int} (h0 : -1 ≤ p) (h1 : p < 20) : z_Ct mX5_roomBefore 107 [(2, 3), (0, p)] h (z_pure (0, c_room h mo p) h) := by
  refine z_mk (L := [(2, 3), (0, p)]) oX5_roomBefore.2.2.2.2 (Nat.le_of_ble_eq_true rfl) rfl ?_
  intro Γ X hQ
  obtain ⟨r30, r31, r42, ⟨kp, rp0, rp1, kp1, kp2, hw, hh, hs, hgl, hpi⟩, ⟨km, rm0, km1, hbr, hmi, hse, hbf⟩⟩ := id hS
  refine V_iload_n (pc := 0) X dX5_roomBefore_0 rfl ?_
  refine V_iconst (pc := 1) X dX5_roomBefore_1 ?_
  refine V_icmp_eq (pc := 2) X 13 dX5_roomBefore_2 (by decide) ⟨by omega, by omega⟩ ⟨by omega, by omega⟩ (fun c_2 => ?_) (fun c_2 => ?_)
  · skip
    refine V_iconst (pc := 13) X dX5_roomBefore_13 ?_
    refine V_iret (st := []) (pc := 14) X hQ dX5_roomBefore_14 rfl rfl ?_
    exact z_pi (by simp [c_room, *])
  · skip
    refine V_aload_n (pc := 5) X dX5_roomBefore_5 rfl (by first | decide | omega | assumption) ?_
    refine V_iload_n (pc := 6) X dX5_roomBefore_6 rfl ?_
    refine V_FV (pc := 7) X dX5_roomBefore_7 oX5_isBroken l_RX5_45 eX5_isBroken vX5_isBroken ⟨Nat.le_of_ble_eq_true rfl, Nat.le_of_ble_eq_true rfl⟩ ⟨rfl, rfl⟩ ⟨Nat.le_of_ble_eq_true rfl, Nat.le_of_ble_eq_true rfl⟩ (ct_X5_isBroken hS (by omega) (by omega)) rfl (by first | rfl | assumption | (simp only [*]; done) | omega) (by intro q h; cases h; rfl) rfl (by rfl) (by exact Nat.le_of_ble_eq_true rfl) ?_
    refine V_bif_eq (pc := 10) X 15 dX5_roomBefore_10 (by decide)  (fun c_10 => ?_) (fun c_10 => ?_)
    · skip
      refine V_iconst (pc := 15) X dX5_roomBefore_15 ?_
      refine V_aload_n (pc := 16) X dX5_roomBefore_16 rfl (by first | decide | omega | assumption) ?_
      refine V_gz (pc := 17) X dX5_roomBefore_17 f_RX5_12 (by first | rfl | assumption | (simp only [*]; done) | omega) 0 rfl r30 ?_
      refine V_gz (pc := 20) X dX5_roomBefore_20 f_RX5_36 (by first | rfl | assumption | (simp only [*]; done) | omega) 2 rfl r42 ?_
      refine V_gz (pc := 23) X dX5_roomBefore_23 f_RX5_60 (by first | rfl | assumption | (simp only [*]; done) | omega) 0 rfl rm0 ?_
      refine V_iload_n (pc := 26) X dX5_roomBefore_26 rfl ?_
      refine V_iald (pc := 27) X dX5_roomBefore_27 (by first | rfl | assumption | (simp only [*]; done) | omega) (by omega) (by omega) (by decide) ?_
      have hbp := hbf p (by omega) (by omega)
      refine V_FS (pc := 28) X dX5_roomBefore_28 oJ6_bitCount_0f7a4 l_RX5_66 sJ6_bitCount_0f7a4 ⟨Nat.le_of_ble_eq_true rfl, Nat.le_of_ble_eq_true rfl⟩ ⟨rfl, rfl⟩ ⟨Nat.le_of_ble_eq_true rfl, Nat.le_of_ble_eq_true rfl⟩ (ct_J6_bitCount_0f7a4 (by omega) (by omega)) rfl (by rfl) (by exact Nat.le_of_ble_eq_true rfl) ?_
      refine V_isub (pc := 31) X dX5_roomBefore_31 ?_
      refine V_iret (st := []) (pc := 32) X hQ dX5_roomBefore_32 rfl rfl ?_
      exact z_pi (by simp [c_room, *])
    · skip
      refine V_iconst (pc := 13) X dX5_roomBefore_13 ?_
      refine V_iret (st := []) (pc := 14) X hQ dX5_roomBefore_14 rfl rfl ?_
      exact z_pi (by simp [c_room, *])
set_option maxHeartbeats 4000000 in
set_option maxRecDepth 100000 in
theorem ct_X5_lostAtFirstHour {h : z_H} {pl mo : Int} (hS : c_Sc h pl mo) : z_Ct mX5_lostAtFirstHour 107 [(2, 3)] h (z_pure (0, c_lost h pl mo) h) := by
  refine z_mk (L := [(2, 3)]) oX5_lostAtFirstHour.2.2.2.2 (Nat.le_of_ble_eq_true rfl) rfl ?_
  intro Γ X hQ
  obtain ⟨r30, r31, r42, ⟨kp, rp0, rp1, kp1, kp2, hw, hh, hs, hgl, hpi⟩, ⟨km, rm0, km1, hbr, hmi, hse, hbf⟩⟩ := id hS
  refine V_aload_n (pc := 0) X dX5_lostAtFirstHour_0 rfl (by first | decide | omega | assumption) ?_
  refine V_gz (pc := 1) X dX5_lostAtFirstHour_1 f_RX5_21 (by first | rfl | assumption | (simp only [*]; done) | omega) 1 rfl r31 ?_
  refine V_gz (pc := 4) X dX5_lostAtFirstHour_4 f_RX5_29 (by first | rfl | assumption | (simp only [*]; done) | omega) 3 rfl rfl ?_
  refine V_iconst (pc := 7) X dX5_lostAtFirstHour_7 ?_
  refine V_aload_n (pc := 8) X dX5_lostAtFirstHour_8 rfl (by first | decide | omega | assumption) ?_
  refine V_gz (pc := 9) X dX5_lostAtFirstHour_9 f_RX5_21 (by first | rfl | assumption | (simp only [*]; done) | omega) 1 rfl r31 ?_
  refine V_gz (pc := 12) X dX5_lostAtFirstHour_12 f_RX5_25 (by first | rfl | assumption | (simp only [*]; done) | omega) 2 rfl rfl ?_
  refine V_iconst (pc := 15) X dX5_lostAtFirstHour_15 ?_
  refine V_aload_n (pc := 16) X dX5_lostAtFirstHour_16 rfl (by first | decide | omega | assumption) ?_
  refine V_gz (pc := 17) X dX5_lostAtFirstHour_17 f_RX5_12 (by first | rfl | assumption | (simp only [*]; done) | omega) 0 rfl r30 ?_
  refine V_gz (pc := 20) X dX5_lostAtFirstHour_20 f_RX5_36 (by first | rfl | assumption | (simp only [*]; done) | omega) 2 rfl r42 ?_
  refine V_gz (pc := 23) X dX5_lostAtFirstHour_23 f_RX5_71 (by first | rfl | assumption | (simp only [*]; done) | omega) 2 rfl rfl ?_
  refine V_imul (pc := 26) X dX5_lostAtFirstHour_26 ?_
  refine V_isub (pc := 27) X dX5_lostAtFirstHour_27 ?_
  refine V_mmax (pc := 28) X dX5_lostAtFirstHour_28 lm_RX5_74 ⟨Nat.le_of_ble_eq_true rfl, Nat.le_of_ble_eq_true rfl⟩ ⟨Nat.le_of_ble_eq_true rfl, Nat.le_of_ble_eq_true rfl⟩ ⟨by omega, by omega⟩ ⟨by omega, by omega⟩ ?_
  refine V_imul (pc := 31) X dX5_lostAtFirstHour_31 ?_
  refine V_iret (st := []) (pc := 32) X hQ dX5_lostAtFirstHour_32 rfl rfl ?_
  exact z_pi (rfl)
set_option maxHeartbeats 4000000 in
set_option maxRecDepth 100000 in
theorem ct_X5_paneBehind {h : z_H} {pl mo : Int} (hS : c_Sc h pl mo) {s : Int} (h0 : 0 ≤ s) (h1 : s < 8) : z_Ct mX5_paneBehind 107 [(2, 3), (0, s)] h (z_pure (0, c_behind h mo s) h) := by
  refine z_mk (L := [(2, 3), (0, s), (9, 0)]) oX5_paneBehind.2.2.2.2 (Nat.le_of_ble_eq_true rfl) rfl ?_
  intro Γ X hQ
  obtain ⟨r30, r31, r42, ⟨kp, rp0, rp1, kp1, kp2, hw, hh, hs, hgl, hpi⟩, ⟨km, rm0, km1, hbr, hmi, hse, hbf⟩⟩ := id hS
  refine V_iconst (pc := 0) X dX5_paneBehind_0 ?_
  refine V_istore_n (pc := 1) X dX5_paneBehind_1 (by exact Nat.le_of_ble_eq_true rfl) rfl ?_
  have lp_2 : ∀ (m : Nat) (i : Int), (20 - i).toNat < m → 0 ≤ i → i ≤ 20 → (∀ k : Int, 0 ≤ k → k < i → tb (h (mo + 1) k) s = false) → z_V Γ (107, 0, 0) 2 [(2, 3), (0, s), (0, i)] [] h := by
    intro m
    induction m with
    | zero => intro i hm; exact absurd hm (Nat.not_lt_zero _)
    | succ m ih_2 =>
      intro i hm hi0 hi1 hk
      refine V_iload_n (pc := 2) X dX5_paneBehind_2 rfl ?_
      refine V_bipush (pc := 3) X dX5_paneBehind_3 (by decide) ?_
      refine V_icmp_ge (pc := 5) X 35 dX5_paneBehind_5 (by decide) ⟨by omega, by omega⟩ ⟨by omega, by omega⟩ (fun c_5 => ?_) (fun c_5 => ?_)
      · skip
        refine V_bipush (pc := 35) X dX5_paneBehind_35 (by decide) ?_
        refine V_iret (st := []) (pc := 37) X hQ dX5_paneBehind_37 rfl rfl ?_
        exact z_pi (by symm; exact z_find_none (n := 20) (fun k g1 g2 => hk k g1 (by omega)))
      · skip
        refine V_aload_n (pc := 8) X dX5_paneBehind_8 rfl (by first | decide | omega | assumption) ?_
        refine V_gz (pc := 9) X dX5_paneBehind_9 f_RX5_12 (by first | rfl | assumption | (simp only [*]; done) | omega) 0 rfl r30 ?_
        refine V_gz (pc := 12) X dX5_paneBehind_12 f_RX5_36 (by first | rfl | assumption | (simp only [*]; done) | omega) 2 rfl r42 ?_
        refine V_gz (pc := 15) X dX5_paneBehind_15 f_RX5_60 (by first | rfl | assumption | (simp only [*]; done) | omega) 0 rfl rm0 ?_
        refine V_iload_n (pc := 18) X dX5_paneBehind_18 rfl ?_
        refine V_iald (pc := 19) X dX5_paneBehind_19 (by first | rfl | assumption | (simp only [*]; done) | omega) (by omega) (by omega) (by decide) ?_
        refine V_iload_n (pc := 20) X dX5_paneBehind_20 rfl ?_
        refine V_ishr (pc := 21) X dX5_paneBehind_21 ?_
        refine V_iconst (pc := 22) X dX5_paneBehind_22 ?_
        have hbp := hbf i (by omega) (by omega)
        refine V_iand (pc := 23) X dX5_paneBehind_23 ?_
        rw [z_bitb (by omega) (by omega) (by omega) (by omega)]
        refine V_if_eq (pc := 24) X 29 dX5_paneBehind_24 (by decide) (z_b_rng _) (fun c_24 => ?_) (fun c_24 => ?_)
        · skip
          refine V_iinc (pc := 29) X dX5_paneBehind_29 rfl rfl ?_
          refine V_goto (pc := 32) X 2 dX5_paneBehind_32 (by decide) ?_
          refine ih_2 (i + 1) (by omega) (by omega) (by omega) (fun k g1 g2 => ?_)
          by_cases e : k = i
          · rw [e]; exact z_b_0.mp c_24
          · exact hk k g1 (by omega)
        · skip
          refine V_iload_n (pc := 27) X dX5_paneBehind_27 rfl ?_
          refine V_iret (st := []) (pc := 28) X hQ dX5_paneBehind_28 rfl rfl ?_
          exact z_pi (by symm; exact z_find_some (n := 20) hi0 (z_b_n0.mp c_24) hk (by omega))
  exact lp_2 _ 0 (Nat.lt_succ_self _) (by decide) (by decide) (by intro k h1 h2; omega)
set_option maxHeartbeats 4000000 in
set_option maxRecDepth 100000 in
theorem ct_X5_box {h : z_H} {pl mo : Int} (hS : c_Sc h pl mo) : z_Ct mX5_box 107 [(2, 3)] h (z_pure (0, c_box h pl mo) h) := by
  refine z_mk (L := [(2, 3), (9, 0), (9, 0)]) oX5_box.2.2.2.2 (Nat.le_of_ble_eq_true rfl) rfl ?_
  intro Γ X hQ
  obtain ⟨r30, r31, r42, ⟨kp, rp0, rp1, kp1, kp2, hw, hh, hs, hgl, hpi⟩, ⟨km, rm0, km1, hbr, hmi, hse, hbf⟩⟩ := id hS
  refine V_iconst (pc := 0) X dX5_box_0 ?_
  refine V_istore_n (pc := 1) X dX5_box_1 (by exact Nat.le_of_ble_eq_true rfl) rfl ?_
  refine V_iconst (pc := 2) X dX5_box_2 ?_
  refine V_istore_n (pc := 3) X dX5_box_3 (by exact Nat.le_of_ble_eq_true rfl) rfl ?_
  have lp_4 : ∀ (m : Nat) (i : Nat), 20 - i < m → i ≤ 20 → z_V Γ (107, 0, 0) 4 [(2, 3), (0, z_orf (h (mo + 1)) i), (0, (i : Int))] [] h := by
    intro m
    induction m with
    | zero => intro i hm; exact absurd hm (Nat.not_lt_zero _)
    | succ m ih_4 =>
      intro i hm hi1
      refine V_iload_n (pc := 4) X dX5_box_4 rfl ?_
      refine V_bipush (pc := 5) X dX5_box_5 (by decide) ?_
      refine V_icmp_ge (pc := 7) X 31 dX5_box_7 (by decide) ⟨by omega, by omega⟩ ⟨by omega, by omega⟩ (fun c_7 => ?_) (fun c_7 => ?_)
      · skip
        refine V_iconst (pc := 31) X dX5_box_31 ?_
        refine V_aload_n (pc := 32) X dX5_box_32 rfl (by first | decide | omega | assumption) ?_
        refine V_gz (pc := 33) X dX5_box_33 f_RX5_21 (by first | rfl | assumption | (simp only [*]; done) | omega) 1 rfl r31 ?_
        refine V_gz (pc := 36) X dX5_box_36 f_RX5_63 (by first | rfl | assumption | (simp only [*]; done) | omega) 4 rfl rfl ?_
        refine V_ishl (pc := 39) X dX5_box_39 ?_
        refine V_iconst (pc := 40) X dX5_box_40 ?_
        refine V_isub (pc := 41) X dX5_box_41 ?_
        refine V_iload_n (pc := 42) X dX5_box_42 rfl ?_
        refine V_iconst (pc := 43) X dX5_box_43 ?_
        refine V_ixor (pc := 44) X dX5_box_44 ?_
        refine V_iand (pc := 45) X dX5_box_45 ?_
        refine V_iret (st := []) (pc := 46) X hQ dX5_box_46 rfl rfl ?_
        exact z_pi (by (obtain rfl : i = 20 := by omega); rfl)
      · skip
        refine V_iload_n (pc := 10) X dX5_box_10 rfl ?_
        refine V_aload_n (pc := 11) X dX5_box_11 rfl (by first | decide | omega | assumption) ?_
        refine V_gz (pc := 12) X dX5_box_12 f_RX5_12 (by first | rfl | assumption | (simp only [*]; done) | omega) 0 rfl r30 ?_
        refine V_gz (pc := 15) X dX5_box_15 f_RX5_36 (by first | rfl | assumption | (simp only [*]; done) | omega) 2 rfl r42 ?_
        refine V_gz (pc := 18) X dX5_box_18 f_RX5_60 (by first | rfl | assumption | (simp only [*]; done) | omega) 0 rfl rm0 ?_
        refine V_iload_n (pc := 21) X dX5_box_21 rfl ?_
        refine V_iald (pc := 22) X dX5_box_22 (by first | rfl | assumption | (simp only [*]; done) | omega) (by omega) (by omega) (by decide) ?_
        refine V_ior (pc := 23) X dX5_box_23 ?_
        refine V_istore_n (pc := 24) X dX5_box_24 (by exact Nat.le_of_ble_eq_true rfl) rfl ?_
        refine V_iinc (pc := 25) X dX5_box_25 rfl rfl ?_
        refine V_goto (pc := 28) X 4 dX5_box_28 (by decide) ?_
        exact ih_4 (i + 1) (by omega) (by omega)
  exact lp_4 _ 0 (Nat.lt_succ_self _) (by decide)
end
