theorem goodL_b : wsL_law.all goodWord = true := by decide +kernel
theorem goodL : ∀ w ∈ wsL_law, (w.onTables && w.keeps) = true ∨ ∃ ty, w = .arrayClass ty := fun w hw => good_of_word (List.all_eq_true.mp goodL_b w hw)
def FL (own : String) (idx ci j : Nat) : Prop := ∃ (C : String) (T : u_T) (N : Nat), vwCl[ci]? = some (C, T, N) ∧ j < N ∧ Cond.fieldLink own idx (T j).1 (T j).2.1 (T j).2.2.1 ∈ wsL_law
def KL (own : String) (idx : Nat) (v : Int32) : Prop := Cond.constant own idx v ∈ wsL_law
def K2 (own : String) (idx : Nat) (v : Int64) : Prop := Cond.constantLong own idx v ∈ wsL_law
def ML (own : String) (idx : Nat) (y : MethodName) : Prop := Cond.methodLink own idx y ∈ wsL_law
/-- a method: its code is among the words, its class is initialised, its name is plain, so many parameters -/
def CD (y : MethodName) (cc : ByteArray) (maxL : Nat) (ret : Option FieldType) (n : Nat) : Prop := Cond.code y cc maxL ret ∈ wsL_law ∧ Cond.initialized y.cls ∈ wsL_law ∧ (y.cls ≠ "java/lang/invoke/MethodHandle" ∧ y.cls ≠ "java/lang/invoke/VarHandle" ∧ (parseMethodDescriptor y.desc).map (fun d => d.parameters.length) = some n) ∧ maxL ≤ 20 ∧ plainName y.cls = true
def CV (y : MethodName) : Prop := Cond.instanceMethod y ∈ wsL_law ∧ Cond.selects y.cls y y ∈ wsL_law
def CS (y : MethodName) : Prop := Cond.static y ∈ wsL_law

theorem wI_1 : ∀ w ∈ wsL_law_r1, w ∈ wsL_law := fun _ h => List.mem_append_left _ (List.mem_append_left _ (List.mem_append_left _ (List.mem_append_left _ (List.mem_append_left _ (List.mem_append_left _ (List.mem_append_left _ (List.mem_append_left _ (List.mem_append_left _ (List.mem_append_left _ (List.mem_append_left _ h))))))))))
theorem wI_2 : ∀ w ∈ wsL_law_r2, w ∈ wsL_law := fun _ h => List.mem_append_left _ (List.mem_append_left _ (List.mem_append_left _ (List.mem_append_left _ (List.mem_append_left _ (List.mem_append_left _ (List.mem_append_left _ (List.mem_append_left _ (List.mem_append_left _ (List.mem_append_left _ (List.mem_append_right _ (List.mem_append_left _ h)))))))))))
theorem wI_3 : ∀ w ∈ wsL_law_r3, w ∈ wsL_law := fun _ h => List.mem_append_left _ (List.mem_append_left _ (List.mem_append_left _ (List.mem_append_left _ (List.mem_append_left _ (List.mem_append_left _ (List.mem_append_left _ (List.mem_append_left _ (List.mem_append_left _ (List.mem_append_left _ (List.mem_append_right _ (List.mem_append_right _ (List.mem_append_left _ h))))))))))))
theorem wI_4 : ∀ w ∈ wsL_law_r4, w ∈ wsL_law := fun _ h => List.mem_append_left _ (List.mem_append_left _ (List.mem_append_left _ (List.mem_append_left _ (List.mem_append_left _ (List.mem_append_left _ (List.mem_append_left _ (List.mem_append_left _ (List.mem_append_left _ (List.mem_append_left _ (List.mem_append_right _ (List.mem_append_right _ (List.mem_append_right _ (List.mem_append_left _ h)))))))))))))
theorem wI_5 : ∀ w ∈ wsL_law_r5, w ∈ wsL_law := fun _ h => List.mem_append_left _ (List.mem_append_left _ (List.mem_append_left _ (List.mem_append_left _ (List.mem_append_left _ (List.mem_append_left _ (List.mem_append_left _ (List.mem_append_left _ (List.mem_append_left _ (List.mem_append_left _ (List.mem_append_right _ (List.mem_append_right _ (List.mem_append_right _ (List.mem_append_right _ (List.mem_append_left _ h))))))))))))))
theorem wI_6 : ∀ w ∈ wsL_law_r6, w ∈ wsL_law := fun _ h => List.mem_append_left _ (List.mem_append_left _ (List.mem_append_left _ (List.mem_append_left _ (List.mem_append_left _ (List.mem_append_left _ (List.mem_append_left _ (List.mem_append_left _ (List.mem_append_left _ (List.mem_append_left _ (List.mem_append_right _ (List.mem_append_right _ (List.mem_append_right _ (List.mem_append_right _ (List.mem_append_right _ (List.mem_append_left _ h)))))))))))))))
theorem wI_7 : ∀ w ∈ wsL_law_r7, w ∈ wsL_law := fun _ h => List.mem_append_left _ (List.mem_append_left _ (List.mem_append_left _ (List.mem_append_left _ (List.mem_append_left _ (List.mem_append_left _ (List.mem_append_left _ (List.mem_append_left _ (List.mem_append_left _ (List.mem_append_left _ (List.mem_append_right _ (List.mem_append_right _ (List.mem_append_right _ (List.mem_append_right _ (List.mem_append_right _ (List.mem_append_right _ (List.mem_append_left _ h))))))))))))))))
theorem wI_8 : ∀ w ∈ wsL_law_r8, w ∈ wsL_law := fun _ h => List.mem_append_left _ (List.mem_append_left _ (List.mem_append_left _ (List.mem_append_left _ (List.mem_append_left _ (List.mem_append_left _ (List.mem_append_left _ (List.mem_append_left _ (List.mem_append_left _ (List.mem_append_left _ (List.mem_append_right _ (List.mem_append_right _ (List.mem_append_right _ (List.mem_append_right _ (List.mem_append_right _ (List.mem_append_right _ (List.mem_append_right _ (List.mem_append_left _ h)))))))))))))))))
theorem wI_9 : ∀ w ∈ wsL_law_r9, w ∈ wsL_law := fun _ h => List.mem_append_left _ (List.mem_append_left _ (List.mem_append_left _ (List.mem_append_left _ (List.mem_append_left _ (List.mem_append_left _ (List.mem_append_left _ (List.mem_append_left _ (List.mem_append_left _ (List.mem_append_left _ (List.mem_append_right _ (List.mem_append_right _ (List.mem_append_right _ (List.mem_append_right _ (List.mem_append_right _ (List.mem_append_right _ (List.mem_append_right _ (List.mem_append_right _ (List.mem_append_left _ h))))))))))))))))))
theorem wI_10 : ∀ w ∈ wsL_law_r10, w ∈ wsL_law := fun _ h => List.mem_append_left _ (List.mem_append_left _ (List.mem_append_left _ (List.mem_append_left _ (List.mem_append_left _ (List.mem_append_left _ (List.mem_append_left _ (List.mem_append_left _ (List.mem_append_left _ (List.mem_append_left _ (List.mem_append_right _ (List.mem_append_right _ (List.mem_append_right _ (List.mem_append_right _ (List.mem_append_right _ (List.mem_append_right _ (List.mem_append_right _ (List.mem_append_right _ (List.mem_append_right _ (List.mem_append_left _ h)))))))))))))))))))
theorem wI_11 : ∀ w ∈ wsL_law_r11, w ∈ wsL_law := fun _ h => List.mem_append_left _ (List.mem_append_left _ (List.mem_append_left _ (List.mem_append_left _ (List.mem_append_left _ (List.mem_append_left _ (List.mem_append_left _ (List.mem_append_left _ (List.mem_append_left _ (List.mem_append_left _ (List.mem_append_right _ (List.mem_append_right _ (List.mem_append_right _ (List.mem_append_right _ (List.mem_append_right _ (List.mem_append_right _ (List.mem_append_right _ (List.mem_append_right _ (List.mem_append_right _ (List.mem_append_right _ (List.mem_append_left _ h))))))))))))))))))))
theorem wI_12 : ∀ w ∈ wsL_law_r12, w ∈ wsL_law := fun _ h => List.mem_append_left _ (List.mem_append_left _ (List.mem_append_left _ (List.mem_append_left _ (List.mem_append_left _ (List.mem_append_left _ (List.mem_append_left _ (List.mem_append_left _ (List.mem_append_left _ (List.mem_append_left _ (List.mem_append_right _ (List.mem_append_right _ (List.mem_append_right _ (List.mem_append_right _ (List.mem_append_right _ (List.mem_append_right _ (List.mem_append_right _ (List.mem_append_right _ (List.mem_append_right _ (List.mem_append_right _ (List.mem_append_right _ (List.mem_append_left _ h)))))))))))))))))))))
theorem wI_13 : ∀ w ∈ wsL_law_r13, w ∈ wsL_law := fun _ h => List.mem_append_left _ (List.mem_append_left _ (List.mem_append_left _ (List.mem_append_left _ (List.mem_append_left _ (List.mem_append_left _ (List.mem_append_left _ (List.mem_append_left _ (List.mem_append_left _ (List.mem_append_left _ (List.mem_append_right _ (List.mem_append_right _ (List.mem_append_right _ (List.mem_append_right _ (List.mem_append_right _ (List.mem_append_right _ (List.mem_append_right _ (List.mem_append_right _ (List.mem_append_right _ (List.mem_append_right _ (List.mem_append_right _ (List.mem_append_right _ (List.mem_append_left _ h))))))))))))))))))))))
theorem wI_14 : ∀ w ∈ wsL_law_r14, w ∈ wsL_law := fun _ h => List.mem_append_left _ (List.mem_append_left _ (List.mem_append_left _ (List.mem_append_left _ (List.mem_append_left _ (List.mem_append_left _ (List.mem_append_left _ (List.mem_append_left _ (List.mem_append_left _ (List.mem_append_left _ (List.mem_append_right _ (List.mem_append_right _ (List.mem_append_right _ (List.mem_append_right _ (List.mem_append_right _ (List.mem_append_right _ (List.mem_append_right _ (List.mem_append_right _ (List.mem_append_right _ (List.mem_append_right _ (List.mem_append_right _ (List.mem_append_right _ (List.mem_append_right _ (List.mem_append_left _ h)))))))))))))))))))))))
theorem wI_15 : ∀ w ∈ wsL_law_r15, w ∈ wsL_law := fun _ h => List.mem_append_left _ (List.mem_append_left _ (List.mem_append_left _ (List.mem_append_left _ (List.mem_append_left _ (List.mem_append_left _ (List.mem_append_left _ (List.mem_append_left _ (List.mem_append_left _ (List.mem_append_left _ (List.mem_append_right _ (List.mem_append_right _ (List.mem_append_right _ (List.mem_append_right _ (List.mem_append_right _ (List.mem_append_right _ (List.mem_append_right _ (List.mem_append_right _ (List.mem_append_right _ (List.mem_append_right _ (List.mem_append_right _ (List.mem_append_right _ (List.mem_append_right _ (List.mem_append_right _ (List.mem_append_left _ h))))))))))))))))))))))))
theorem wI_16 : ∀ w ∈ wsL_law_r16, w ∈ wsL_law := fun _ h => List.mem_append_left _ (List.mem_append_left _ (List.mem_append_left _ (List.mem_append_left _ (List.mem_append_left _ (List.mem_append_left _ (List.mem_append_left _ (List.mem_append_left _ (List.mem_append_left _ (List.mem_append_left _ (List.mem_append_right _ (List.mem_append_right _ (List.mem_append_right _ (List.mem_append_right _ (List.mem_append_right _ (List.mem_append_right _ (List.mem_append_right _ (List.mem_append_right _ (List.mem_append_right _ (List.mem_append_right _ (List.mem_append_right _ (List.mem_append_right _ (List.mem_append_right _ (List.mem_append_right _ (List.mem_append_right _ (List.mem_append_left _ h)))))))))))))))))))))))))
theorem wI_17 : ∀ w ∈ wsL_law_r17, w ∈ wsL_law := fun _ h => List.mem_append_left _ (List.mem_append_left _ (List.mem_append_left _ (List.mem_append_left _ (List.mem_append_left _ (List.mem_append_left _ (List.mem_append_left _ (List.mem_append_left _ (List.mem_append_left _ (List.mem_append_left _ (List.mem_append_right _ (List.mem_append_right _ (List.mem_append_right _ (List.mem_append_right _ (List.mem_append_right _ (List.mem_append_right _ (List.mem_append_right _ (List.mem_append_right _ (List.mem_append_right _ (List.mem_append_right _ (List.mem_append_right _ (List.mem_append_right _ (List.mem_append_right _ (List.mem_append_right _ (List.mem_append_right _ (List.mem_append_right _ (List.mem_append_left _ h))))))))))))))))))))))))))
theorem wI_18 : ∀ w ∈ wsL_law_r18, w ∈ wsL_law := fun _ h => List.mem_append_left _ (List.mem_append_left _ (List.mem_append_left _ (List.mem_append_left _ (List.mem_append_left _ (List.mem_append_left _ (List.mem_append_left _ (List.mem_append_left _ (List.mem_append_left _ (List.mem_append_left _ (List.mem_append_right _ (List.mem_append_right _ (List.mem_append_right _ (List.mem_append_right _ (List.mem_append_right _ (List.mem_append_right _ (List.mem_append_right _ (List.mem_append_right _ (List.mem_append_right _ (List.mem_append_right _ (List.mem_append_right _ (List.mem_append_right _ (List.mem_append_right _ (List.mem_append_right _ (List.mem_append_right _ (List.mem_append_right _ (List.mem_append_right _ (List.mem_append_left _ h)))))))))))))))))))))))))))
theorem wI_19 : ∀ w ∈ wsL_law_r19, w ∈ wsL_law := fun _ h => List.mem_append_left _ (List.mem_append_left _ (List.mem_append_left _ (List.mem_append_left _ (List.mem_append_left _ (List.mem_append_left _ (List.mem_append_left _ (List.mem_append_left _ (List.mem_append_left _ (List.mem_append_left _ (List.mem_append_right _ (List.mem_append_right _ (List.mem_append_right _ (List.mem_append_right _ (List.mem_append_right _ (List.mem_append_right _ (List.mem_append_right _ (List.mem_append_right _ (List.mem_append_right _ (List.mem_append_right _ (List.mem_append_right _ (List.mem_append_right _ (List.mem_append_right _ (List.mem_append_right _ (List.mem_append_right _ (List.mem_append_right _ (List.mem_append_right _ (List.mem_append_right _ (List.mem_append_left _ h))))))))))))))))))))))))))))
theorem wI_20 : ∀ w ∈ wsL_law_r20, w ∈ wsL_law := fun _ h => List.mem_append_left _ (List.mem_append_left _ (List.mem_append_left _ (List.mem_append_left _ (List.mem_append_left _ (List.mem_append_left _ (List.mem_append_left _ (List.mem_append_left _ (List.mem_append_left _ (List.mem_append_left _ (List.mem_append_right _ (List.mem_append_right _ (List.mem_append_right _ (List.mem_append_right _ (List.mem_append_right _ (List.mem_append_right _ (List.mem_append_right _ (List.mem_append_right _ (List.mem_append_right _ (List.mem_append_right _ (List.mem_append_right _ (List.mem_append_right _ (List.mem_append_right _ (List.mem_append_right _ (List.mem_append_right _ (List.mem_append_right _ (List.mem_append_right _ (List.mem_append_right _ (List.mem_append_right _ (List.mem_append_left _ h)))))))))))))))))))))))))))))
theorem wI_21 : ∀ w ∈ wsL_law_r21, w ∈ wsL_law := fun _ h => List.mem_append_left _ (List.mem_append_left _ (List.mem_append_left _ (List.mem_append_left _ (List.mem_append_left _ (List.mem_append_left _ (List.mem_append_left _ (List.mem_append_left _ (List.mem_append_left _ (List.mem_append_left _ (List.mem_append_right _ (List.mem_append_right _ (List.mem_append_right _ (List.mem_append_right _ (List.mem_append_right _ (List.mem_append_right _ (List.mem_append_right _ (List.mem_append_right _ (List.mem_append_right _ (List.mem_append_right _ (List.mem_append_right _ (List.mem_append_right _ (List.mem_append_right _ (List.mem_append_right _ (List.mem_append_right _ (List.mem_append_right _ (List.mem_append_right _ (List.mem_append_right _ (List.mem_append_right _ (List.mem_append_right _ (List.mem_append_left _ h))))))))))))))))))))))))))))))
theorem wI_22 : ∀ w ∈ wsL_law_r22, w ∈ wsL_law := fun _ h => List.mem_append_left _ (List.mem_append_left _ (List.mem_append_left _ (List.mem_append_left _ (List.mem_append_left _ (List.mem_append_left _ (List.mem_append_left _ (List.mem_append_left _ (List.mem_append_left _ (List.mem_append_left _ (List.mem_append_right _ (List.mem_append_right _ (List.mem_append_right _ (List.mem_append_right _ (List.mem_append_right _ (List.mem_append_right _ (List.mem_append_right _ (List.mem_append_right _ (List.mem_append_right _ (List.mem_append_right _ (List.mem_append_right _ (List.mem_append_right _ (List.mem_append_right _ (List.mem_append_right _ (List.mem_append_right _ (List.mem_append_right _ (List.mem_append_right _ (List.mem_append_right _ (List.mem_append_right _ (List.mem_append_right _ (List.mem_append_right _ (List.mem_append_left _ h)))))))))))))))))))))))))))))))
theorem wI_23 : ∀ w ∈ wsL_law_r23, w ∈ wsL_law := fun _ h => List.mem_append_left _ (List.mem_append_left _ (List.mem_append_left _ (List.mem_append_left _ (List.mem_append_left _ (List.mem_append_left _ (List.mem_append_left _ (List.mem_append_left _ (List.mem_append_left _ (List.mem_append_left _ (List.mem_append_right _ (List.mem_append_right _ (List.mem_append_right _ (List.mem_append_right _ (List.mem_append_right _ (List.mem_append_right _ (List.mem_append_right _ (List.mem_append_right _ (List.mem_append_right _ (List.mem_append_right _ (List.mem_append_right _ (List.mem_append_right _ (List.mem_append_right _ (List.mem_append_right _ (List.mem_append_right _ (List.mem_append_right _ (List.mem_append_right _ (List.mem_append_right _ (List.mem_append_right _ (List.mem_append_right _ (List.mem_append_right _ (List.mem_append_right _ (List.mem_append_left _ h))))))))))))))))))))))))))))))))
theorem wI_24 : ∀ w ∈ wsL_law_r24, w ∈ wsL_law := fun _ h => List.mem_append_left _ (List.mem_append_left _ (List.mem_append_left _ (List.mem_append_left _ (List.mem_append_left _ (List.mem_append_left _ (List.mem_append_left _ (List.mem_append_left _ (List.mem_append_left _ (List.mem_append_left _ (List.mem_append_right _ (List.mem_append_right _ (List.mem_append_right _ (List.mem_append_right _ (List.mem_append_right _ (List.mem_append_right _ (List.mem_append_right _ (List.mem_append_right _ (List.mem_append_right _ (List.mem_append_right _ (List.mem_append_right _ (List.mem_append_right _ (List.mem_append_right _ (List.mem_append_right _ (List.mem_append_right _ (List.mem_append_right _ (List.mem_append_right _ (List.mem_append_right _ (List.mem_append_right _ (List.mem_append_right _ (List.mem_append_right _ (List.mem_append_right _ (List.mem_append_right _ (List.mem_append_left _ h)))))))))))))))))))))))))))))))))
theorem wI_25 : ∀ w ∈ wsL_law_r25, w ∈ wsL_law := fun _ h => List.mem_append_left _ (List.mem_append_left _ (List.mem_append_left _ (List.mem_append_left _ (List.mem_append_left _ (List.mem_append_left _ (List.mem_append_left _ (List.mem_append_left _ (List.mem_append_left _ (List.mem_append_left _ (List.mem_append_right _ (List.mem_append_right _ (List.mem_append_right _ (List.mem_append_right _ (List.mem_append_right _ (List.mem_append_right _ (List.mem_append_right _ (List.mem_append_right _ (List.mem_append_right _ (List.mem_append_right _ (List.mem_append_right _ (List.mem_append_right _ (List.mem_append_right _ (List.mem_append_right _ (List.mem_append_right _ (List.mem_append_right _ (List.mem_append_right _ (List.mem_append_right _ (List.mem_append_right _ (List.mem_append_right _ (List.mem_append_right _ (List.mem_append_right _ (List.mem_append_right _ (List.mem_append_right _ (List.mem_append_left _ h))))))))))))))))))))))))))))))))))
theorem wI_26 : ∀ w ∈ wsL_law_r26, w ∈ wsL_law := fun _ h => List.mem_append_left _ (List.mem_append_left _ (List.mem_append_left _ (List.mem_append_left _ (List.mem_append_left _ (List.mem_append_left _ (List.mem_append_left _ (List.mem_append_left _ (List.mem_append_left _ (List.mem_append_left _ (List.mem_append_right _ (List.mem_append_right _ (List.mem_append_right _ (List.mem_append_right _ (List.mem_append_right _ (List.mem_append_right _ (List.mem_append_right _ (List.mem_append_right _ (List.mem_append_right _ (List.mem_append_right _ (List.mem_append_right _ (List.mem_append_right _ (List.mem_append_right _ (List.mem_append_right _ (List.mem_append_right _ (List.mem_append_right _ (List.mem_append_right _ (List.mem_append_right _ (List.mem_append_right _ (List.mem_append_right _ (List.mem_append_right _ (List.mem_append_right _ (List.mem_append_right _ (List.mem_append_right _ (List.mem_append_right _ (List.mem_append_left _ h)))))))))))))))))))))))))))))))))))
theorem wI_27 : ∀ w ∈ wsL_law_r27, w ∈ wsL_law := fun _ h => List.mem_append_left _ (List.mem_append_left _ (List.mem_append_left _ (List.mem_append_left _ (List.mem_append_left _ (List.mem_append_left _ (List.mem_append_left _ (List.mem_append_left _ (List.mem_append_left _ (List.mem_append_left _ (List.mem_append_right _ (List.mem_append_right _ (List.mem_append_right _ (List.mem_append_right _ (List.mem_append_right _ (List.mem_append_right _ (List.mem_append_right _ (List.mem_append_right _ (List.mem_append_right _ (List.mem_append_right _ (List.mem_append_right _ (List.mem_append_right _ (List.mem_append_right _ (List.mem_append_right _ (List.mem_append_right _ (List.mem_append_right _ (List.mem_append_right _ (List.mem_append_right _ (List.mem_append_right _ (List.mem_append_right _ (List.mem_append_right _ (List.mem_append_right _ (List.mem_append_right _ (List.mem_append_right _ (List.mem_append_right _ (List.mem_append_right _ (List.mem_append_left _ h))))))))))))))))))))))))))))))))))))
theorem wI_28 : ∀ w ∈ wsL_law_r28, w ∈ wsL_law := fun _ h => List.mem_append_left _ (List.mem_append_left _ (List.mem_append_left _ (List.mem_append_left _ (List.mem_append_left _ (List.mem_append_left _ (List.mem_append_left _ (List.mem_append_left _ (List.mem_append_left _ (List.mem_append_left _ (List.mem_append_right _ (List.mem_append_right _ (List.mem_append_right _ (List.mem_append_right _ (List.mem_append_right _ (List.mem_append_right _ (List.mem_append_right _ (List.mem_append_right _ (List.mem_append_right _ (List.mem_append_right _ (List.mem_append_right _ (List.mem_append_right _ (List.mem_append_right _ (List.mem_append_right _ (List.mem_append_right _ (List.mem_append_right _ (List.mem_append_right _ (List.mem_append_right _ (List.mem_append_right _ (List.mem_append_right _ (List.mem_append_right _ (List.mem_append_right _ (List.mem_append_right _ (List.mem_append_right _ (List.mem_append_right _ (List.mem_append_right _ (List.mem_append_right _ (List.mem_append_left _ h)))))))))))))))))))))))))))))))))))))
theorem wI_29 : ∀ w ∈ wsL_law_r29, w ∈ wsL_law := fun _ h => List.mem_append_left _ (List.mem_append_left _ (List.mem_append_left _ (List.mem_append_left _ (List.mem_append_left _ (List.mem_append_left _ (List.mem_append_left _ (List.mem_append_left _ (List.mem_append_left _ (List.mem_append_left _ (List.mem_append_right _ (List.mem_append_right _ (List.mem_append_right _ (List.mem_append_right _ (List.mem_append_right _ (List.mem_append_right _ (List.mem_append_right _ (List.mem_append_right _ (List.mem_append_right _ (List.mem_append_right _ (List.mem_append_right _ (List.mem_append_right _ (List.mem_append_right _ (List.mem_append_right _ (List.mem_append_right _ (List.mem_append_right _ (List.mem_append_right _ (List.mem_append_right _ (List.mem_append_right _ (List.mem_append_right _ (List.mem_append_right _ (List.mem_append_right _ (List.mem_append_right _ (List.mem_append_right _ (List.mem_append_right _ (List.mem_append_right _ (List.mem_append_right _ (List.mem_append_right _ (List.mem_append_left _ h))))))))))))))))))))))))))))))))))))))
theorem wI_30 : ∀ w ∈ wsL_law_r30, w ∈ wsL_law := fun _ h => List.mem_append_left _ (List.mem_append_left _ (List.mem_append_left _ (List.mem_append_left _ (List.mem_append_left _ (List.mem_append_left _ (List.mem_append_left _ (List.mem_append_left _ (List.mem_append_left _ (List.mem_append_left _ (List.mem_append_right _ (List.mem_append_right _ (List.mem_append_right _ (List.mem_append_right _ (List.mem_append_right _ (List.mem_append_right _ (List.mem_append_right _ (List.mem_append_right _ (List.mem_append_right _ (List.mem_append_right _ (List.mem_append_right _ (List.mem_append_right _ (List.mem_append_right _ (List.mem_append_right _ (List.mem_append_right _ (List.mem_append_right _ (List.mem_append_right _ (List.mem_append_right _ (List.mem_append_right _ (List.mem_append_right _ (List.mem_append_right _ (List.mem_append_right _ (List.mem_append_right _ (List.mem_append_right _ (List.mem_append_right _ (List.mem_append_right _ (List.mem_append_right _ (List.mem_append_right _ (List.mem_append_right _ (List.mem_append_left _ h)))))))))))))))))))))))))))))))))))))))
theorem wI_31 : ∀ w ∈ wsL_law_r31, w ∈ wsL_law := fun _ h => List.mem_append_left _ (List.mem_append_left _ (List.mem_append_left _ (List.mem_append_left _ (List.mem_append_left _ (List.mem_append_left _ (List.mem_append_left _ (List.mem_append_left _ (List.mem_append_left _ (List.mem_append_left _ (List.mem_append_right _ (List.mem_append_right _ (List.mem_append_right _ (List.mem_append_right _ (List.mem_append_right _ (List.mem_append_right _ (List.mem_append_right _ (List.mem_append_right _ (List.mem_append_right _ (List.mem_append_right _ (List.mem_append_right _ (List.mem_append_right _ (List.mem_append_right _ (List.mem_append_right _ (List.mem_append_right _ (List.mem_append_right _ (List.mem_append_right _ (List.mem_append_right _ (List.mem_append_right _ (List.mem_append_right _ (List.mem_append_right _ (List.mem_append_right _ (List.mem_append_right _ (List.mem_append_right _ (List.mem_append_right _ (List.mem_append_right _ (List.mem_append_right _ (List.mem_append_right _ (List.mem_append_right _ (List.mem_append_right _ (List.mem_append_left _ h))))))))))))))))))))))))))))))))))))))))
theorem wI_32 : ∀ w ∈ wsL_law_r32, w ∈ wsL_law := fun _ h => List.mem_append_left _ (List.mem_append_left _ (List.mem_append_left _ (List.mem_append_left _ (List.mem_append_left _ (List.mem_append_left _ (List.mem_append_left _ (List.mem_append_left _ (List.mem_append_left _ (List.mem_append_left _ (List.mem_append_right _ (List.mem_append_right _ (List.mem_append_right _ (List.mem_append_right _ (List.mem_append_right _ (List.mem_append_right _ (List.mem_append_right _ (List.mem_append_right _ (List.mem_append_right _ (List.mem_append_right _ (List.mem_append_right _ (List.mem_append_right _ (List.mem_append_right _ (List.mem_append_right _ (List.mem_append_right _ (List.mem_append_right _ (List.mem_append_right _ (List.mem_append_right _ (List.mem_append_right _ (List.mem_append_right _ (List.mem_append_right _ (List.mem_append_right _ (List.mem_append_right _ (List.mem_append_right _ (List.mem_append_right _ (List.mem_append_right _ (List.mem_append_right _ (List.mem_append_right _ (List.mem_append_right _ (List.mem_append_right _ (List.mem_append_right _ (List.mem_append_left _ h)))))))))))))))))))))))))))))))))))))))))
theorem wI_33 : ∀ w ∈ wsL_law_r33, w ∈ wsL_law := fun _ h => List.mem_append_left _ (List.mem_append_left _ (List.mem_append_left _ (List.mem_append_left _ (List.mem_append_left _ (List.mem_append_left _ (List.mem_append_left _ (List.mem_append_left _ (List.mem_append_left _ (List.mem_append_left _ (List.mem_append_right _ (List.mem_append_right _ (List.mem_append_right _ (List.mem_append_right _ (List.mem_append_right _ (List.mem_append_right _ (List.mem_append_right _ (List.mem_append_right _ (List.mem_append_right _ (List.mem_append_right _ (List.mem_append_right _ (List.mem_append_right _ (List.mem_append_right _ (List.mem_append_right _ (List.mem_append_right _ (List.mem_append_right _ (List.mem_append_right _ (List.mem_append_right _ (List.mem_append_right _ (List.mem_append_right _ (List.mem_append_right _ (List.mem_append_right _ (List.mem_append_right _ (List.mem_append_right _ (List.mem_append_right _ (List.mem_append_right _ (List.mem_append_right _ (List.mem_append_right _ (List.mem_append_right _ (List.mem_append_right _ (List.mem_append_right _ (List.mem_append_right _ (List.mem_append_left _ h))))))))))))))))))))))))))))))))))))))))))
theorem wI_34 : ∀ w ∈ wsL_law_r34, w ∈ wsL_law := fun _ h => List.mem_append_left _ (List.mem_append_left _ (List.mem_append_left _ (List.mem_append_left _ (List.mem_append_left _ (List.mem_append_left _ (List.mem_append_left _ (List.mem_append_left _ (List.mem_append_left _ (List.mem_append_left _ (List.mem_append_right _ (List.mem_append_right _ (List.mem_append_right _ (List.mem_append_right _ (List.mem_append_right _ (List.mem_append_right _ (List.mem_append_right _ (List.mem_append_right _ (List.mem_append_right _ (List.mem_append_right _ (List.mem_append_right _ (List.mem_append_right _ (List.mem_append_right _ (List.mem_append_right _ (List.mem_append_right _ (List.mem_append_right _ (List.mem_append_right _ (List.mem_append_right _ (List.mem_append_right _ (List.mem_append_right _ (List.mem_append_right _ (List.mem_append_right _ (List.mem_append_right _ (List.mem_append_right _ (List.mem_append_right _ (List.mem_append_right _ (List.mem_append_right _ (List.mem_append_right _ (List.mem_append_right _ (List.mem_append_right _ (List.mem_append_right _ (List.mem_append_right _ (List.mem_append_right _ (List.mem_append_left _ h)))))))))))))))))))))))))))))))))))))))))))
theorem wI_35 : ∀ w ∈ wsL_law_r35, w ∈ wsL_law := fun _ h => List.mem_append_left _ (List.mem_append_left _ (List.mem_append_left _ (List.mem_append_left _ (List.mem_append_left _ (List.mem_append_left _ (List.mem_append_left _ (List.mem_append_left _ (List.mem_append_left _ (List.mem_append_left _ (List.mem_append_right _ (List.mem_append_right _ (List.mem_append_right _ (List.mem_append_right _ (List.mem_append_right _ (List.mem_append_right _ (List.mem_append_right _ (List.mem_append_right _ (List.mem_append_right _ (List.mem_append_right _ (List.mem_append_right _ (List.mem_append_right _ (List.mem_append_right _ (List.mem_append_right _ (List.mem_append_right _ (List.mem_append_right _ (List.mem_append_right _ (List.mem_append_right _ (List.mem_append_right _ (List.mem_append_right _ (List.mem_append_right _ (List.mem_append_right _ (List.mem_append_right _ (List.mem_append_right _ (List.mem_append_right _ (List.mem_append_right _ (List.mem_append_right _ (List.mem_append_right _ (List.mem_append_right _ (List.mem_append_right _ (List.mem_append_right _ (List.mem_append_right _ (List.mem_append_right _ (List.mem_append_right _ (List.mem_append_left _ h))))))))))))))))))))))))))))))))))))))))))))
theorem wI_36 : ∀ w ∈ wsL_law_r36, w ∈ wsL_law := fun _ h => List.mem_append_left _ (List.mem_append_left _ (List.mem_append_left _ (List.mem_append_left _ (List.mem_append_left _ (List.mem_append_left _ (List.mem_append_left _ (List.mem_append_left _ (List.mem_append_left _ (List.mem_append_left _ (List.mem_append_right _ (List.mem_append_right _ (List.mem_append_right _ (List.mem_append_right _ (List.mem_append_right _ (List.mem_append_right _ (List.mem_append_right _ (List.mem_append_right _ (List.mem_append_right _ (List.mem_append_right _ (List.mem_append_right _ (List.mem_append_right _ (List.mem_append_right _ (List.mem_append_right _ (List.mem_append_right _ (List.mem_append_right _ (List.mem_append_right _ (List.mem_append_right _ (List.mem_append_right _ (List.mem_append_right _ (List.mem_append_right _ (List.mem_append_right _ (List.mem_append_right _ (List.mem_append_right _ (List.mem_append_right _ (List.mem_append_right _ (List.mem_append_right _ (List.mem_append_right _ (List.mem_append_right _ (List.mem_append_right _ (List.mem_append_right _ (List.mem_append_right _ (List.mem_append_right _ (List.mem_append_right _ (List.mem_append_right _ (List.mem_append_left _ h)))))))))))))))))))))))))))))))))))))))))))))
theorem wI_37 : ∀ w ∈ wsL_law_r37, w ∈ wsL_law := fun _ h => List.mem_append_left _ (List.mem_append_left _ (List.mem_append_left _ (List.mem_append_left _ (List.mem_append_left _ (List.mem_append_left _ (List.mem_append_left _ (List.mem_append_left _ (List.mem_append_left _ (List.mem_append_left _ (List.mem_append_right _ (List.mem_append_right _ (List.mem_append_right _ (List.mem_append_right _ (List.mem_append_right _ (List.mem_append_right _ (List.mem_append_right _ (List.mem_append_right _ (List.mem_append_right _ (List.mem_append_right _ (List.mem_append_right _ (List.mem_append_right _ (List.mem_append_right _ (List.mem_append_right _ (List.mem_append_right _ (List.mem_append_right _ (List.mem_append_right _ (List.mem_append_right _ (List.mem_append_right _ (List.mem_append_right _ (List.mem_append_right _ (List.mem_append_right _ (List.mem_append_right _ (List.mem_append_right _ (List.mem_append_right _ (List.mem_append_right _ (List.mem_append_right _ (List.mem_append_right _ (List.mem_append_right _ (List.mem_append_right _ (List.mem_append_right _ (List.mem_append_right _ (List.mem_append_right _ (List.mem_append_right _ (List.mem_append_right _ (List.mem_append_right _ (List.mem_append_left _ h))))))))))))))))))))))))))))))))))))))))))))))
theorem wI_38 : ∀ w ∈ wsL_law_r38, w ∈ wsL_law := fun _ h => List.mem_append_left _ (List.mem_append_left _ (List.mem_append_left _ (List.mem_append_left _ (List.mem_append_left _ (List.mem_append_left _ (List.mem_append_left _ (List.mem_append_left _ (List.mem_append_left _ (List.mem_append_left _ (List.mem_append_right _ (List.mem_append_right _ (List.mem_append_right _ (List.mem_append_right _ (List.mem_append_right _ (List.mem_append_right _ (List.mem_append_right _ (List.mem_append_right _ (List.mem_append_right _ (List.mem_append_right _ (List.mem_append_right _ (List.mem_append_right _ (List.mem_append_right _ (List.mem_append_right _ (List.mem_append_right _ (List.mem_append_right _ (List.mem_append_right _ (List.mem_append_right _ (List.mem_append_right _ (List.mem_append_right _ (List.mem_append_right _ (List.mem_append_right _ (List.mem_append_right _ (List.mem_append_right _ (List.mem_append_right _ (List.mem_append_right _ (List.mem_append_right _ (List.mem_append_right _ (List.mem_append_right _ (List.mem_append_right _ (List.mem_append_right _ (List.mem_append_right _ (List.mem_append_right _ (List.mem_append_right _ (List.mem_append_right _ (List.mem_append_right _ (List.mem_append_right _ (List.mem_append_left _ h)))))))))))))))))))))))))))))))))))))))))))))))
theorem wI_39 : ∀ w ∈ wsL_law_r39, w ∈ wsL_law := fun _ h => List.mem_append_left _ (List.mem_append_left _ (List.mem_append_left _ (List.mem_append_left _ (List.mem_append_left _ (List.mem_append_left _ (List.mem_append_left _ (List.mem_append_left _ (List.mem_append_left _ (List.mem_append_left _ (List.mem_append_right _ (List.mem_append_right _ (List.mem_append_right _ (List.mem_append_right _ (List.mem_append_right _ (List.mem_append_right _ (List.mem_append_right _ (List.mem_append_right _ (List.mem_append_right _ (List.mem_append_right _ (List.mem_append_right _ (List.mem_append_right _ (List.mem_append_right _ (List.mem_append_right _ (List.mem_append_right _ (List.mem_append_right _ (List.mem_append_right _ (List.mem_append_right _ (List.mem_append_right _ (List.mem_append_right _ (List.mem_append_right _ (List.mem_append_right _ (List.mem_append_right _ (List.mem_append_right _ (List.mem_append_right _ (List.mem_append_right _ (List.mem_append_right _ (List.mem_append_right _ (List.mem_append_right _ (List.mem_append_right _ (List.mem_append_right _ (List.mem_append_right _ (List.mem_append_right _ (List.mem_append_right _ (List.mem_append_right _ (List.mem_append_right _ (List.mem_append_right _ (List.mem_append_right _ (List.mem_append_left _ h))))))))))))))))))))))))))))))))))))))))))))))))
theorem wI_40 : ∀ w ∈ wsL_law_r40, w ∈ wsL_law := fun _ h => List.mem_append_left _ (List.mem_append_left _ (List.mem_append_left _ (List.mem_append_left _ (List.mem_append_left _ (List.mem_append_left _ (List.mem_append_left _ (List.mem_append_left _ (List.mem_append_left _ (List.mem_append_left _ (List.mem_append_right _ (List.mem_append_right _ (List.mem_append_right _ (List.mem_append_right _ (List.mem_append_right _ (List.mem_append_right _ (List.mem_append_right _ (List.mem_append_right _ (List.mem_append_right _ (List.mem_append_right _ (List.mem_append_right _ (List.mem_append_right _ (List.mem_append_right _ (List.mem_append_right _ (List.mem_append_right _ (List.mem_append_right _ (List.mem_append_right _ (List.mem_append_right _ (List.mem_append_right _ (List.mem_append_right _ (List.mem_append_right _ (List.mem_append_right _ (List.mem_append_right _ (List.mem_append_right _ (List.mem_append_right _ (List.mem_append_right _ (List.mem_append_right _ (List.mem_append_right _ (List.mem_append_right _ (List.mem_append_right _ (List.mem_append_right _ (List.mem_append_right _ (List.mem_append_right _ (List.mem_append_right _ (List.mem_append_right _ (List.mem_append_right _ (List.mem_append_right _ (List.mem_append_right _ (List.mem_append_right _ (List.mem_append_left _ h)))))))))))))))))))))))))))))))))))))))))))))))))
theorem wI_41 : ∀ w ∈ wsL_law_r41, w ∈ wsL_law := fun _ h => List.mem_append_left _ (List.mem_append_left _ (List.mem_append_left _ (List.mem_append_left _ (List.mem_append_left _ (List.mem_append_left _ (List.mem_append_left _ (List.mem_append_left _ (List.mem_append_left _ (List.mem_append_left _ (List.mem_append_right _ (List.mem_append_right _ (List.mem_append_right _ (List.mem_append_right _ (List.mem_append_right _ (List.mem_append_right _ (List.mem_append_right _ (List.mem_append_right _ (List.mem_append_right _ (List.mem_append_right _ (List.mem_append_right _ (List.mem_append_right _ (List.mem_append_right _ (List.mem_append_right _ (List.mem_append_right _ (List.mem_append_right _ (List.mem_append_right _ (List.mem_append_right _ (List.mem_append_right _ (List.mem_append_right _ (List.mem_append_right _ (List.mem_append_right _ (List.mem_append_right _ (List.mem_append_right _ (List.mem_append_right _ (List.mem_append_right _ (List.mem_append_right _ (List.mem_append_right _ (List.mem_append_right _ (List.mem_append_right _ (List.mem_append_right _ (List.mem_append_right _ (List.mem_append_right _ (List.mem_append_right _ (List.mem_append_right _ (List.mem_append_right _ (List.mem_append_right _ (List.mem_append_right _ (List.mem_append_right _ (List.mem_append_right _ (List.mem_append_left _ h))))))))))))))))))))))))))))))))))))))))))))))))))
theorem wI_42 : ∀ w ∈ wsL_law_r42, w ∈ wsL_law := fun _ h => List.mem_append_left _ (List.mem_append_left _ (List.mem_append_left _ (List.mem_append_left _ (List.mem_append_left _ (List.mem_append_left _ (List.mem_append_left _ (List.mem_append_left _ (List.mem_append_left _ (List.mem_append_left _ (List.mem_append_right _ (List.mem_append_right _ (List.mem_append_right _ (List.mem_append_right _ (List.mem_append_right _ (List.mem_append_right _ (List.mem_append_right _ (List.mem_append_right _ (List.mem_append_right _ (List.mem_append_right _ (List.mem_append_right _ (List.mem_append_right _ (List.mem_append_right _ (List.mem_append_right _ (List.mem_append_right _ (List.mem_append_right _ (List.mem_append_right _ (List.mem_append_right _ (List.mem_append_right _ (List.mem_append_right _ (List.mem_append_right _ (List.mem_append_right _ (List.mem_append_right _ (List.mem_append_right _ (List.mem_append_right _ (List.mem_append_right _ (List.mem_append_right _ (List.mem_append_right _ (List.mem_append_right _ (List.mem_append_right _ (List.mem_append_right _ (List.mem_append_right _ (List.mem_append_right _ (List.mem_append_right _ (List.mem_append_right _ (List.mem_append_right _ (List.mem_append_right _ (List.mem_append_right _ (List.mem_append_right _ (List.mem_append_right _ (List.mem_append_right _ (List.mem_append_left _ h)))))))))))))))))))))))))))))))))))))))))))))))))))
theorem wI_43 : ∀ w ∈ wsL_law_r43, w ∈ wsL_law := fun _ h => List.mem_append_left _ (List.mem_append_left _ (List.mem_append_left _ (List.mem_append_left _ (List.mem_append_left _ (List.mem_append_left _ (List.mem_append_left _ (List.mem_append_left _ (List.mem_append_left _ (List.mem_append_left _ (List.mem_append_right _ (List.mem_append_right _ (List.mem_append_right _ (List.mem_append_right _ (List.mem_append_right _ (List.mem_append_right _ (List.mem_append_right _ (List.mem_append_right _ (List.mem_append_right _ (List.mem_append_right _ (List.mem_append_right _ (List.mem_append_right _ (List.mem_append_right _ (List.mem_append_right _ (List.mem_append_right _ (List.mem_append_right _ (List.mem_append_right _ (List.mem_append_right _ (List.mem_append_right _ (List.mem_append_right _ (List.mem_append_right _ (List.mem_append_right _ (List.mem_append_right _ (List.mem_append_right _ (List.mem_append_right _ (List.mem_append_right _ (List.mem_append_right _ (List.mem_append_right _ (List.mem_append_right _ (List.mem_append_right _ (List.mem_append_right _ (List.mem_append_right _ (List.mem_append_right _ (List.mem_append_right _ (List.mem_append_right _ (List.mem_append_right _ (List.mem_append_right _ (List.mem_append_right _ (List.mem_append_right _ (List.mem_append_right _ (List.mem_append_right _ (List.mem_append_right _ (List.mem_append_left _ h))))))))))))))))))))))))))))))))))))))))))))))))))))
theorem wI_44 : ∀ w ∈ wsL_law_r44, w ∈ wsL_law := fun _ h => List.mem_append_left _ (List.mem_append_left _ (List.mem_append_left _ (List.mem_append_left _ (List.mem_append_left _ (List.mem_append_left _ (List.mem_append_left _ (List.mem_append_left _ (List.mem_append_left _ (List.mem_append_left _ (List.mem_append_right _ (List.mem_append_right _ (List.mem_append_right _ (List.mem_append_right _ (List.mem_append_right _ (List.mem_append_right _ (List.mem_append_right _ (List.mem_append_right _ (List.mem_append_right _ (List.mem_append_right _ (List.mem_append_right _ (List.mem_append_right _ (List.mem_append_right _ (List.mem_append_right _ (List.mem_append_right _ (List.mem_append_right _ (List.mem_append_right _ (List.mem_append_right _ (List.mem_append_right _ (List.mem_append_right _ (List.mem_append_right _ (List.mem_append_right _ (List.mem_append_right _ (List.mem_append_right _ (List.mem_append_right _ (List.mem_append_right _ (List.mem_append_right _ (List.mem_append_right _ (List.mem_append_right _ (List.mem_append_right _ (List.mem_append_right _ (List.mem_append_right _ (List.mem_append_right _ (List.mem_append_right _ (List.mem_append_right _ (List.mem_append_right _ (List.mem_append_right _ (List.mem_append_right _ (List.mem_append_right _ (List.mem_append_right _ (List.mem_append_right _ (List.mem_append_right _ (List.mem_append_right _ (List.mem_append_left _ h)))))))))))))))))))))))))))))))))))))))))))))))))))))
theorem wI_45 : ∀ w ∈ wsL_law_r45, w ∈ wsL_law := fun _ h => List.mem_append_left _ (List.mem_append_left _ (List.mem_append_left _ (List.mem_append_left _ (List.mem_append_left _ (List.mem_append_left _ (List.mem_append_left _ (List.mem_append_left _ (List.mem_append_left _ (List.mem_append_left _ (List.mem_append_right _ (List.mem_append_right _ (List.mem_append_right _ (List.mem_append_right _ (List.mem_append_right _ (List.mem_append_right _ (List.mem_append_right _ (List.mem_append_right _ (List.mem_append_right _ (List.mem_append_right _ (List.mem_append_right _ (List.mem_append_right _ (List.mem_append_right _ (List.mem_append_right _ (List.mem_append_right _ (List.mem_append_right _ (List.mem_append_right _ (List.mem_append_right _ (List.mem_append_right _ (List.mem_append_right _ (List.mem_append_right _ (List.mem_append_right _ (List.mem_append_right _ (List.mem_append_right _ (List.mem_append_right _ (List.mem_append_right _ (List.mem_append_right _ (List.mem_append_right _ (List.mem_append_right _ (List.mem_append_right _ (List.mem_append_right _ (List.mem_append_right _ (List.mem_append_right _ (List.mem_append_right _ (List.mem_append_right _ (List.mem_append_right _ (List.mem_append_right _ (List.mem_append_right _ (List.mem_append_right _ (List.mem_append_right _ (List.mem_append_right _ (List.mem_append_right _ (List.mem_append_right _ (List.mem_append_right _ (List.mem_append_left _ h))))))))))))))))))))))))))))))))))))))))))))))))))))))
theorem wI_46 : ∀ w ∈ wsL_law_r46, w ∈ wsL_law := fun _ h => List.mem_append_left _ (List.mem_append_left _ (List.mem_append_left _ (List.mem_append_left _ (List.mem_append_left _ (List.mem_append_left _ (List.mem_append_left _ (List.mem_append_left _ (List.mem_append_left _ (List.mem_append_left _ (List.mem_append_right _ (List.mem_append_right _ (List.mem_append_right _ (List.mem_append_right _ (List.mem_append_right _ (List.mem_append_right _ (List.mem_append_right _ (List.mem_append_right _ (List.mem_append_right _ (List.mem_append_right _ (List.mem_append_right _ (List.mem_append_right _ (List.mem_append_right _ (List.mem_append_right _ (List.mem_append_right _ (List.mem_append_right _ (List.mem_append_right _ (List.mem_append_right _ (List.mem_append_right _ (List.mem_append_right _ (List.mem_append_right _ (List.mem_append_right _ (List.mem_append_right _ (List.mem_append_right _ (List.mem_append_right _ (List.mem_append_right _ (List.mem_append_right _ (List.mem_append_right _ (List.mem_append_right _ (List.mem_append_right _ (List.mem_append_right _ (List.mem_append_right _ (List.mem_append_right _ (List.mem_append_right _ (List.mem_append_right _ (List.mem_append_right _ (List.mem_append_right _ (List.mem_append_right _ (List.mem_append_right _ (List.mem_append_right _ (List.mem_append_right _ (List.mem_append_right _ (List.mem_append_right _ (List.mem_append_right _ (List.mem_append_right _ (List.mem_append_left _ h)))))))))))))))))))))))))))))))))))))))))))))))))))))))
theorem wI_47 : ∀ w ∈ wsL_law_r47, w ∈ wsL_law := fun _ h => List.mem_append_left _ (List.mem_append_left _ (List.mem_append_left _ (List.mem_append_left _ (List.mem_append_left _ (List.mem_append_left _ (List.mem_append_left _ (List.mem_append_left _ (List.mem_append_left _ (List.mem_append_left _ (List.mem_append_right _ (List.mem_append_right _ (List.mem_append_right _ (List.mem_append_right _ (List.mem_append_right _ (List.mem_append_right _ (List.mem_append_right _ (List.mem_append_right _ (List.mem_append_right _ (List.mem_append_right _ (List.mem_append_right _ (List.mem_append_right _ (List.mem_append_right _ (List.mem_append_right _ (List.mem_append_right _ (List.mem_append_right _ (List.mem_append_right _ (List.mem_append_right _ (List.mem_append_right _ (List.mem_append_right _ (List.mem_append_right _ (List.mem_append_right _ (List.mem_append_right _ (List.mem_append_right _ (List.mem_append_right _ (List.mem_append_right _ (List.mem_append_right _ (List.mem_append_right _ (List.mem_append_right _ (List.mem_append_right _ (List.mem_append_right _ (List.mem_append_right _ (List.mem_append_right _ (List.mem_append_right _ (List.mem_append_right _ (List.mem_append_right _ (List.mem_append_right _ (List.mem_append_right _ (List.mem_append_right _ (List.mem_append_right _ (List.mem_append_right _ (List.mem_append_right _ (List.mem_append_right _ (List.mem_append_right _ (List.mem_append_right _ (List.mem_append_right _ (h))))))))))))))))))))))))))))))))))))))))))))))))))))))))
theorem ml_L_9 : ML RL 9 yX7_init := wI_1 _ (List.mem_of_getElem? (i := 6) rfl)
theorem ml_X7_1 : ML RX7 1 objectInit := wI_1 _ (List.mem_of_getElem? (i := 9) rfl)
theorem fl_X7_11 : FL RX7 11 7 0 := ⟨RX7, TX7, 11, rfl, by decide, wI_1 _ (List.mem_of_getElem? (i := 13) rfl)⟩
theorem fl_X7_21 : FL RX7 21 7 1 := ⟨RX7, TX7, 11, rfl, by decide, wI_1 _ (List.mem_of_getElem? (i := 20) rfl)⟩
theorem fl_X7_30 : FL RX7 30 7 2 := ⟨RX7, TX7, 11, rfl, by decide, wI_2 _ (List.mem_of_getElem? (i := 0) rfl)⟩
theorem fl_X7_39 : FL RX7 39 7 3 := ⟨RX7, TX7, 11, rfl, by decide, wI_2 _ (List.mem_of_getElem? (i := 4) rfl)⟩
theorem fl_X7_43 : FL RX7 43 7 4 := ⟨RX7, TX7, 11, rfl, by decide, wI_2 _ (List.mem_of_getElem? (i := 5) rfl)⟩
theorem fl_X7_46 : FL RX7 46 7 5 := ⟨RX7, TX7, 11, rfl, by decide, wI_2 _ (List.mem_of_getElem? (i := 6) rfl)⟩
theorem fl_X7_51 : FL RX7 51 7 6 := ⟨RX7, TX7, 11, rfl, by decide, wI_2 _ (List.mem_of_getElem? (i := 8) rfl)⟩
theorem fl_X7_58 : FL RX7 58 7 7 := ⟨RX7, TX7, 11, rfl, by decide, wI_2 _ (List.mem_of_getElem? (i := 12) rfl)⟩
theorem fl_X7_63 : FL RX7 63 7 8 := ⟨RX7, TX7, 11, rfl, by decide, wI_2 _ (List.mem_of_getElem? (i := 15) rfl)⟩
theorem ml_X7_15 : ML RX7 15 yX4_init := wI_2 _ (List.mem_of_getElem? (i := 16) rfl)
theorem ml_X4_5 : ML RX4 5 objectInit := wI_2 _ (List.mem_of_getElem? (i := 19) rfl)
theorem fl_X4_11 : FL RX4 11 4 0 := ⟨RX4, TX4, 5, rfl, by decide, wI_2 _ (List.mem_of_getElem? (i := 20) rfl)⟩
theorem fl_X4_15 : FL RX4 15 4 4 := ⟨RX4, TX4, 5, rfl, by decide, wI_2 _ (List.mem_of_getElem? (i := 21) rfl)⟩
theorem ml_X3_3 : ML RX3 3 objectInit := wI_3 _ (List.mem_of_getElem? (i := 0) rfl)
theorem fl_X3_9 : FL RX3 9 3 0 := ⟨RX3, TX3, 2, rfl, by decide, wI_3 _ (List.mem_of_getElem? (i := 1) rfl)⟩
theorem ml_X7_27 : ML RX7 27 yX5_init := wI_3 _ (List.mem_of_getElem? (i := 2) rfl)
theorem ml_X5_3 : ML RX5 3 objectInit := wI_3 _ (List.mem_of_getElem? (i := 5) rfl)
theorem fl_X5_9 : FL RX5 9 5 2 := ⟨RX5, TX5, 5, rfl, by decide, wI_3 _ (List.mem_of_getElem? (i := 6) rfl)⟩
theorem fl_X5_15 : FL RX5 15 5 0 := ⟨RX5, TX5, 5, rfl, by decide, wI_3 _ (List.mem_of_getElem? (i := 7) rfl)⟩
theorem ml_X7_36 : ML RX7 36 yX6_init := wI_3 _ (List.mem_of_getElem? (i := 8) rfl)
theorem ml_X6_3 : ML RX6 3 objectInit := wI_3 _ (List.mem_of_getElem? (i := 11) rfl)
theorem fl_X6_9 : FL RX6 9 6 0 := ⟨RX6, TX6, 13, rfl, by decide, wI_3 _ (List.mem_of_getElem? (i := 12) rfl)⟩
theorem fl_X6_17 : FL RX6 17 6 1 := ⟨RX6, TX6, 13, rfl, by decide, wI_3 _ (List.mem_of_getElem? (i := 14) rfl)⟩
theorem fl_X6_22 : FL RX6 22 6 2 := ⟨RX6, TX6, 13, rfl, by decide, wI_3 _ (List.mem_of_getElem? (i := 17) rfl)⟩
theorem fl_X6_26 : FL RX6 26 6 3 := ⟨RX6, TX6, 13, rfl, by decide, wI_3 _ (List.mem_of_getElem? (i := 18) rfl)⟩
theorem fl_X6_29 : FL RX6 29 6 4 := ⟨RX6, TX6, 13, rfl, by decide, wI_3 _ (List.mem_of_getElem? (i := 19) rfl)⟩
theorem fl_X6_32 : FL RX6 32 6 5 := ⟨RX6, TX6, 13, rfl, by decide, wI_3 _ (List.mem_of_getElem? (i := 20) rfl)⟩
theorem kc_X6_35 : KL RX6 35 (-1000000005) := wI_3 _ (List.mem_of_getElem? (i := 21) rfl)
theorem fl_X6_42 : FL RX6 42 6 11 := ⟨RX6, TX6, 13, rfl, by decide, wI_3 _ (List.mem_of_getElem? (i := 22) rfl)⟩
theorem ml_X0_3 : ML RX0 3 objectInit := wI_4 _ (List.mem_of_getElem? (i := 1) rfl)
theorem ml_X6_36 : ML RX6 36 yJ7_fill_53178 := wI_4 _ (List.mem_of_getElem? (i := 2) rfl)
theorem ml_X1_3 : ML RX1 3 objectInit := wI_4 _ (List.mem_of_getElem? (i := 8) rfl)
theorem fl_X1_9 : FL RX1 9 1 0 := ⟨RX1, TX1, 3, rfl, by decide, wI_4 _ (List.mem_of_getElem? (i := 9) rfl)⟩
theorem fl_X1_15 : FL RX1 15 1 1 := ⟨RX1, TX1, 3, rfl, by decide, wI_4 _ (List.mem_of_getElem? (i := 10) rfl)⟩
theorem ml_X2_1 : ML RX2 1 objectInit := wI_4 _ (List.mem_of_getElem? (i := 13) rfl)
theorem fl_X2_10 : FL RX2 10 2 0 := ⟨RX2, TX2, 4, rfl, by decide, wI_4 _ (List.mem_of_getElem? (i := 15) rfl)⟩
theorem fl_X2_19 : FL RX2 19 2 1 := ⟨RX2, TX2, 4, rfl, by decide, wI_4 _ (List.mem_of_getElem? (i := 17) rfl)⟩
theorem ml_L_12 : ML RL 12 yX8_init := wI_4 _ (List.mem_of_getElem? (i := 18) rfl)
theorem ml_X8_1 : ML RX8 1 objectInit := wI_4 _ (List.mem_of_getElem? (i := 21) rfl)
theorem fl_X8_7 : FL RX8 7 8 0 := ⟨RX8, TX8, 31, rfl, by decide, wI_4 _ (List.mem_of_getElem? (i := 22) rfl)⟩
theorem fl_X8_13 : FL RX8 13 8 1 := ⟨RX8, TX8, 31, rfl, by decide, wI_4 _ (List.mem_of_getElem? (i := 23) rfl)⟩
theorem fl_X8_16 : FL RX8 16 8 2 := ⟨RX8, TX8, 31, rfl, by decide, wI_5 _ (List.mem_of_getElem? (i := 0) rfl)⟩
theorem fl_X8_19 : FL RX8 19 8 4 := ⟨RX8, TX8, 31, rfl, by decide, wI_5 _ (List.mem_of_getElem? (i := 1) rfl)⟩
theorem fl_X8_22 : FL RX8 22 8 5 := ⟨RX8, TX8, 31, rfl, by decide, wI_5 _ (List.mem_of_getElem? (i := 2) rfl)⟩
theorem fl_X8_25 : FL RX8 25 8 6 := ⟨RX8, TX8, 31, rfl, by decide, wI_5 _ (List.mem_of_getElem? (i := 3) rfl)⟩
theorem fl_X8_28 : FL RX8 28 8 7 := ⟨RX8, TX8, 31, rfl, by decide, wI_5 _ (List.mem_of_getElem? (i := 4) rfl)⟩
theorem fl_X8_31 : FL RX8 31 8 8 := ⟨RX8, TX8, 31, rfl, by decide, wI_5 _ (List.mem_of_getElem? (i := 5) rfl)⟩
theorem fl_X8_34 : FL RX8 34 8 9 := ⟨RX8, TX8, 31, rfl, by decide, wI_5 _ (List.mem_of_getElem? (i := 6) rfl)⟩
theorem fl_X8_37 : FL RX8 37 8 10 := ⟨RX8, TX8, 31, rfl, by decide, wI_5 _ (List.mem_of_getElem? (i := 7) rfl)⟩
theorem fl_X8_40 : FL RX8 40 8 11 := ⟨RX8, TX8, 31, rfl, by decide, wI_5 _ (List.mem_of_getElem? (i := 8) rfl)⟩
theorem fl_X8_43 : FL RX8 43 8 12 := ⟨RX8, TX8, 31, rfl, by decide, wI_5 _ (List.mem_of_getElem? (i := 9) rfl)⟩
theorem fl_X8_46 : FL RX8 46 8 13 := ⟨RX8, TX8, 31, rfl, by decide, wI_5 _ (List.mem_of_getElem? (i := 10) rfl)⟩
theorem fl_X8_49 : FL RX8 49 8 25 := ⟨RX8, TX8, 31, rfl, by decide, wI_5 _ (List.mem_of_getElem? (i := 11) rfl)⟩
theorem fl_X8_52 : FL RX8 52 8 26 := ⟨RX8, TX8, 31, rfl, by decide, wI_5 _ (List.mem_of_getElem? (i := 12) rfl)⟩
theorem fl_X8_55 : FL RX8 55 8 27 := ⟨RX8, TX8, 31, rfl, by decide, wI_5 _ (List.mem_of_getElem? (i := 13) rfl)⟩
theorem fl_X8_58 : FL RX8 58 8 28 := ⟨RX8, TX8, 31, rfl, by decide, wI_5 _ (List.mem_of_getElem? (i := 14) rfl)⟩
theorem fl_X8_61 : FL RX8 61 8 30 := ⟨RX8, TX8, 31, rfl, by decide, wI_5 _ (List.mem_of_getElem? (i := 15) rfl)⟩
theorem ml_L_13 : ML RL 13 yX7_mule := wI_5 _ (List.mem_of_getElem? (i := 16) rfl)
theorem kc_X7_75 : KL RX7 75 (-1000000001) := wI_5 _ (List.mem_of_getElem? (i := 20) rfl)
theorem fl_X7_76 : FL RX7 76 6 6 := ⟨RX6, TX6, 13, rfl, by decide, wI_5 _ (List.mem_of_getElem? (i := 21) rfl)⟩
theorem kc_X7_80 : KL RX7 80 (-1000000003) := wI_5 _ (List.mem_of_getElem? (i := 22) rfl)
theorem ml_X7_67 : ML RX7 67 yX7_isKind := wI_5 _ (List.mem_of_getElem? (i := 23) rfl)
theorem ml_X7_71 : ML RX7 71 yX7_within := wI_6 _ (List.mem_of_getElem? (i := 2) rfl)
theorem ml_X7_81 : ML RX7 81 yX6_addMule := wI_6 _ (List.mem_of_getElem? (i := 5) rfl)
theorem fl_X6_46 : FL RX6 46 6 6 := ⟨RX6, TX6, 13, rfl, by decide, wI_6 _ (List.mem_of_getElem? (i := 9) rfl)⟩
theorem fl_X6_74 : FL RX6 74 0 0 := ⟨RX0, TX0, 5, rfl, by decide, wI_6 _ (List.mem_of_getElem? (i := 10) rfl)⟩
theorem fl_X6_77 : FL RX6 77 0 1 := ⟨RX0, TX0, 5, rfl, by decide, wI_6 _ (List.mem_of_getElem? (i := 11) rfl)⟩
theorem fl_X6_80 : FL RX6 80 0 2 := ⟨RX0, TX0, 5, rfl, by decide, wI_6 _ (List.mem_of_getElem? (i := 12) rfl)⟩
theorem fl_X6_83 : FL RX6 83 0 3 := ⟨RX0, TX0, 5, rfl, by decide, wI_6 _ (List.mem_of_getElem? (i := 13) rfl)⟩
theorem fl_X6_86 : FL RX6 86 0 4 := ⟨RX0, TX0, 5, rfl, by decide, wI_6 _ (List.mem_of_getElem? (i := 14) rfl)⟩
theorem ml_L_17 : ML RL 17 yX8_mule := wI_6 _ (List.mem_of_getElem? (i := 15) rfl)
theorem k2_X8_76 : K2 RX8 76 (5) := wI_6 _ (List.mem_of_getElem? (i := 19) rfl)
theorem k2_X8_78 : K2 RX8 78 (9) := wI_6 _ (List.mem_of_getElem? (i := 20) rfl)
theorem k2_X8_80 : K2 RX8 80 (9999) := wI_6 _ (List.mem_of_getElem? (i := 21) rfl)
theorem k2_X8_82 : K2 RX8 82 (50) := wI_6 _ (List.mem_of_getElem? (i := 22) rfl)
theorem kc_X8_84 : KL RX8 84 (-1000000001) := wI_6 _ (List.mem_of_getElem? (i := 23) rfl)
theorem kc_X8_85 : KL RX8 85 (-1000000003) := wI_7 _ (List.mem_of_getElem? (i := 0) rfl)
theorem ml_X8_65 : ML RX8 65 yX8_isIn := wI_7 _ (List.mem_of_getElem? (i := 1) rfl)
theorem ml_X8_86 : ML RX8 86 yX8_comes := wI_7 _ (List.mem_of_getElem? (i := 4) rfl)
theorem ml_X8_72 : ML RX8 72 yX8_sets := wI_7 _ (List.mem_of_getElem? (i := 8) rfl)
theorem ml_L_18 : ML RL 18 yX7_told := wI_7 _ (List.mem_of_getElem? (i := 12) rfl)
theorem fl_X7_88 : FL RX7 88 6 1 := ⟨RX6, TX6, 13, rfl, by decide, wI_7 _ (List.mem_of_getElem? (i := 16) rfl)⟩
theorem fl_X7_92 : FL RX7 92 0 0 := ⟨RX0, TX0, 5, rfl, by decide, wI_7 _ (List.mem_of_getElem? (i := 17) rfl)⟩
theorem fl_X7_97 : FL RX7 97 0 1 := ⟨RX0, TX0, 5, rfl, by decide, wI_7 _ (List.mem_of_getElem? (i := 18) rfl)⟩
theorem fl_X7_100 : FL RX7 100 0 2 := ⟨RX0, TX0, 5, rfl, by decide, wI_7 _ (List.mem_of_getElem? (i := 19) rfl)⟩
theorem fl_X7_103 : FL RX7 103 0 3 := ⟨RX0, TX0, 5, rfl, by decide, wI_7 _ (List.mem_of_getElem? (i := 20) rfl)⟩
theorem fl_X7_106 : FL RX7 106 0 4 := ⟨RX0, TX0, 5, rfl, by decide, wI_7 _ (List.mem_of_getElem? (i := 21) rfl)⟩
theorem ml_X7_85 : ML RX7 85 yX7_isMule := wI_7 _ (List.mem_of_getElem? (i := 22) rfl)
theorem ml_X7_109 : ML RX7 109 yX6_leaksOf := wI_8 _ (List.mem_of_getElem? (i := 2) rfl)
theorem ml_X6_98 : ML RX6 98 yX6_given := wI_8 _ (List.mem_of_getElem? (i := 6) rfl)
theorem ml_X6_114 : ML RX6 114 yX4_give := wI_8 _ (List.mem_of_getElem? (i := 10) rfl)
theorem fl_X4_22 : FL RX4 22 4 1 := ⟨RX4, TX4, 5, rfl, by decide, wI_8 _ (List.mem_of_getElem? (i := 14) rfl)⟩
theorem ml_X4_38 : ML RX4 38 yX4_workOut := wI_8 _ (List.mem_of_getElem? (i := 15) rfl)
theorem ml_X7_153 : ML RX7 153 Lib.Math.min.name := wI_8 _ (List.mem_of_getElem? (i := 20) rfl)
theorem ml_X7_320 : ML RX7 320 Lib.Math.max.name := wI_9 _ (List.mem_of_getElem? (i := 0) rfl)
theorem ml_X6_106 : ML RX6 106 yX0_leaks := wI_9 _ (List.mem_of_getElem? (i := 3) rfl)
theorem fl_X0_9 : FL RX0 9 0 0 := ⟨RX0, TX0, 5, rfl, by decide, wI_9 _ (List.mem_of_getElem? (i := 7) rfl)⟩
theorem ml_X0_35 : ML RX0 35 Lib.Math.max.name := wI_9 _ (List.mem_of_getElem? (i := 8) rfl)
theorem ml_X7_113 : ML RX7 113 yX0_goes := wI_9 _ (List.mem_of_getElem? (i := 9) rfl)
theorem fl_X0_15 : FL RX0 15 0 1 := ⟨RX0, TX0, 5, rfl, by decide, wI_9 _ (List.mem_of_getElem? (i := 13) rfl)⟩
theorem ml_X7_117 : ML RX7 117 yX0_worth := wI_9 _ (List.mem_of_getElem? (i := 14) rfl)
theorem ml_L_22 : ML RL 22 yX8_told := wI_9 _ (List.mem_of_getElem? (i := 18) rfl)
theorem ml_X8_104 : ML RX8 104 yX8_isMule := wI_9 _ (List.mem_of_getElem? (i := 22) rfl)
theorem ml_X8_90 : ML RX8 90 yX8_of := wI_10 _ (List.mem_of_getElem? (i := 2) rfl)
theorem ml_X8_108 : ML RX8 108 yX8_leaks := wI_10 _ (List.mem_of_getElem? (i := 6) rfl)
theorem ml_X8_94 : ML RX8 94 yX8_counts := wI_10 _ (List.mem_of_getElem? (i := 10) rfl)
theorem ml_X8_267 : ML RX8 267 yX8_textAt := wI_10 _ (List.mem_of_getElem? (i := 14) rfl)
theorem ml_X8_98 : ML RX8 98 yX8_worked := wI_10 _ (List.mem_of_getElem? (i := 18) rfl)
theorem ml_X8_281 : ML RX8 281 yX8_joined := wI_10 _ (List.mem_of_getElem? (i := 22) rfl)
theorem ml_X8_101 : ML RX8 101 yX8_within := wI_11 _ (List.mem_of_getElem? (i := 1) rfl)
theorem ml_X8_111 : ML RX8 111 yX8_paces := wI_11 _ (List.mem_of_getElem? (i := 4) rfl)
theorem ml_X8_114 : ML RX8 114 yX8_worth := wI_11 _ (List.mem_of_getElem? (i := 8) rfl)
theorem ml_L_23 : ML RL 23 yX7_as := wI_11 _ (List.mem_of_getElem? (i := 12) rfl)
theorem kc_X7_123 : KL RX7 123 (-1000000012) := wI_11 _ (List.mem_of_getElem? (i := 16) rfl)
theorem ml_X7_120 : ML RX7 120 yX0_isOf := wI_11 _ (List.mem_of_getElem? (i := 17) rfl)
theorem ml_L_26 : ML RL 26 yX8_as := wI_11 _ (List.mem_of_getElem? (i := 22) rfl)
theorem kc_X8_121 : KL RX8 121 (-1000000012) := wI_12 _ (List.mem_of_getElem? (i := 2) rfl)
theorem ml_X8_117 : ML RX8 117 yX8_isOf := wI_12 _ (List.mem_of_getElem? (i := 3) rfl)
theorem ml_L_27 : ML RL 27 yX7_turns := wI_12 _ (List.mem_of_getElem? (i := 6) rfl)
theorem ml_L_30 : ML RL 30 yX8_turns := wI_12 _ (List.mem_of_getElem? (i := 10) rfl)
theorem ml_X8_122 : ML RX8 122 yX8_becomes := wI_12 _ (List.mem_of_getElem? (i := 14) rfl)
theorem ml_L_31 : ML RL 31 yX7_set := wI_12 _ (List.mem_of_getElem? (i := 18) rfl)
theorem ml_X7_124 : ML RX7 124 yX7_fits := wI_12 _ (List.mem_of_getElem? (i := 22) rfl)
theorem ml_X7_137 : ML RX7 137 yX7_isYard := wI_13 _ (List.mem_of_getElem? (i := 1) rfl)
theorem ml_L_35 : ML RL 35 yX8_set := wI_13 _ (List.mem_of_getElem? (i := 4) rfl)
theorem k2_X8_125 : K2 RX8 125 (4) := wI_13 _ (List.mem_of_getElem? (i := 8) rfl)
theorem ml_X8_127 : ML RX8 127 yX8_mostOf := wI_13 _ (List.mem_of_getElem? (i := 9) rfl)
theorem ml_L_36 : ML RL 36 yX7_rule := wI_13 _ (List.mem_of_getElem? (i := 12) rfl)
theorem fl_X7_134 : FL RX7 134 6 4 := ⟨RX6, TX6, 13, rfl, by decide, wI_13 _ (List.mem_of_getElem? (i := 18) rfl)⟩
theorem ml_L_39 : ML RL 39 yX8_rule := wI_13 _ (List.mem_of_getElem? (i := 19) rfl)
theorem k2_X8_130 : K2 RX8 130 (99) := wI_13 _ (List.mem_of_getElem? (i := 23) rfl)
theorem k2_X8_132 : K2 RX8 132 (100) := wI_14 _ (List.mem_of_getElem? (i := 0) rfl)
theorem k2_X8_134 : K2 RX8 134 (-3) := wI_14 _ (List.mem_of_getElem? (i := 1) rfl)
theorem k2_X8_136 : K2 RX8 136 (3) := wI_14 _ (List.mem_of_getElem? (i := 2) rfl)
theorem ml_L_40 : ML RL 40 yX7_yard := wI_14 _ (List.mem_of_getElem? (i := 3) rfl)
theorem fl_X7_140 : FL RX7 140 6 2 := ⟨RX6, TX6, 13, rfl, by decide, wI_14 _ (List.mem_of_getElem? (i := 7) rfl)⟩
theorem fl_X7_143 : FL RX7 143 6 3 := ⟨RX6, TX6, 13, rfl, by decide, wI_14 _ (List.mem_of_getElem? (i := 8) rfl)⟩
theorem ml_L_43 : ML RL 43 yX8_yard := wI_14 _ (List.mem_of_getElem? (i := 9) rfl)
theorem ml_X8_138 : ML RX8 138 yX8_isYard := wI_14 _ (List.mem_of_getElem? (i := 13) rfl)
theorem k2_X8_69 : K2 RX8 69 (59) := wI_14 _ (List.mem_of_getElem? (i := 16) rfl)
theorem ml_L_44 : ML RL 44 yX7_sweep := wI_14 _ (List.mem_of_getElem? (i := 17) rfl)
theorem ml_X7_146 : ML RX7 146 yX6_takeAll := wI_14 _ (List.mem_of_getElem? (i := 21) rfl)
theorem ml_L_48 : ML RL 48 yX8_sweep := wI_15 _ (List.mem_of_getElem? (i := 1) rfl)
theorem ml_L_49 : ML RL 49 yX7_rain := wI_15 _ (List.mem_of_getElem? (i := 5) rfl)
theorem ml_X7_150 : ML RX7 150 yX6_sprout := wI_15 _ (List.mem_of_getElem? (i := 9) rfl)
theorem ml_L_53 : ML RL 53 yX8_rain := wI_15 _ (List.mem_of_getElem? (i := 13) rfl)
theorem ml_L_54 : ML RL 54 yX7_deal := wI_15 _ (List.mem_of_getElem? (i := 17) rfl)
theorem ml_X7_159 : ML RX7 159 yX6_drawMule := wI_15 _ (List.mem_of_getElem? (i := 21) rfl)
theorem ml_X6_89 : ML RX6 89 yX6_draw := wI_16 _ (List.mem_of_getElem? (i := 1) rfl)
theorem kc_X6_97 : KL RX6 97 (1103515245) := wI_16 _ (List.mem_of_getElem? (i := 5) rfl)
theorem ml_X6_93 : ML RX6 93 yX6_addMule := wI_16 _ (List.mem_of_getElem? (i := 6) rfl)
theorem ml_L_57 : ML RL 57 yX8_deal := wI_16 _ (List.mem_of_getElem? (i := 7) rfl)
theorem k2_X8_141 : K2 RX8 141 (8) := wI_16 _ (List.mem_of_getElem? (i := 11) rfl)
theorem ml_X8_143 : ML RX8 143 yX8_drawn := wI_16 _ (List.mem_of_getElem? (i := 12) rfl)
theorem kc_X8_71 : KL RX8 71 (1103515245) := wI_16 _ (List.mem_of_getElem? (i := 16) rfl)
theorem ml_L_58 : ML RL 58 yX7_seed := wI_16 _ (List.mem_of_getElem? (i := 17) rfl)
theorem fl_X7_162 : FL RX7 162 6 11 := ⟨RX6, TX6, 13, rfl, by decide, wI_16 _ (List.mem_of_getElem? (i := 21) rfl)⟩
theorem ml_L_61 : ML RL 61 yX8_seed := wI_16 _ (List.mem_of_getElem? (i := 22) rfl)
theorem ml_L_62 : ML RL 62 yX7_minutes := wI_17 _ (List.mem_of_getElem? (i := 2) rfl)
theorem fl_X7_165 : FL RX7 165 6 7 := ⟨RX6, TX6, 13, rfl, by decide, wI_17 _ (List.mem_of_getElem? (i := 6) rfl)⟩
theorem ml_X7_168 : ML RX7 168 yX6_roomFor := wI_17 _ (List.mem_of_getElem? (i := 7) rfl)
theorem fl_X6_68 : FL RX6 68 6 10 := ⟨RX6, TX6, 13, rfl, by decide, wI_17 _ (List.mem_of_getElem? (i := 11) rfl)⟩
theorem ml_X6_119 : ML RX6 119 Lib.Math.min.name := wI_17 _ (List.mem_of_getElem? (i := 12) rfl)
theorem ml_X7_171 : ML RX7 171 yX6_pass := wI_17 _ (List.mem_of_getElem? (i := 13) rfl)
theorem ml_X6_125 : ML RX6 125 yX6_goOn := wI_17 _ (List.mem_of_getElem? (i := 17) rfl)
theorem fl_X6_59 : FL RX6 59 6 7 := ⟨RX6, TX6, 13, rfl, by decide, wI_17 _ (List.mem_of_getElem? (i := 21) rfl)⟩
theorem ml_X6_137 : ML RX6 137 yX6_leaksOf := wI_17 _ (List.mem_of_getElem? (i := 22) rfl)
theorem ml_X6_141 : ML RX6 141 yX0_goes := wI_17 _ (List.mem_of_getElem? (i := 23) rfl)
theorem ml_X6_128 : ML RX6 128 yX6_widenHoles := wI_18 _ (List.mem_of_getElem? (i := 0) rfl)
theorem ml_X6_131 : ML RX6 131 yX6_birdsEat := wI_18 _ (List.mem_of_getElem? (i := 4) rfl)
theorem fl_X6_62 : FL RX6 62 6 8 := ⟨RX6, TX6, 13, rfl, by decide, wI_18 _ (List.mem_of_getElem? (i := 8) rfl)⟩
theorem ml_X6_134 : ML RX6 134 yX6_gustBlows := wI_18 _ (List.mem_of_getElem? (i := 9) rfl)
theorem fl_X6_65 : FL RX6 65 6 9 := ⟨RX6, TX6, 13, rfl, by decide, wI_18 _ (List.mem_of_getElem? (i := 13) rfl)⟩
theorem ml_L_65 : ML RL 65 yX8_minutes := wI_18 _ (List.mem_of_getElem? (i := 14) rfl)
theorem ml_X8_154 : ML RX8 154 yX8_goesOn := wI_18 _ (List.mem_of_getElem? (i := 18) rfl)
theorem ml_X8_147 : ML RX8 147 yX8_walks := wI_18 _ (List.mem_of_getElem? (i := 22) rfl)
theorem ml_X8_151 : ML RX8 151 yX8_gusts := wI_19 _ (List.mem_of_getElem? (i := 2) rfl)
theorem ml_L_66 : ML RL 66 yX7_way := wI_19 _ (List.mem_of_getElem? (i := 6) rfl)
theorem fl_X7_179 : FL RX7 179 6 8 := ⟨RX6, TX6, 13, rfl, by decide, wI_19 _ (List.mem_of_getElem? (i := 10) rfl)⟩
theorem fl_X7_182 : FL RX7 182 6 9 := ⟨RX6, TX6, 13, rfl, by decide, wI_19 _ (List.mem_of_getElem? (i := 11) rfl)⟩
theorem ml_X7_175 : ML RX7 175 yX7_sumOf := wI_19 _ (List.mem_of_getElem? (i := 12) rfl)
theorem ml_X7_185 : ML RX7 185 yX6_grainOfAll := wI_19 _ (List.mem_of_getElem? (i := 15) rfl)
theorem ml_X7_188 : ML RX7 188 yX6_trail := wI_19 _ (List.mem_of_getElem? (i := 19) rfl)
theorem ml_X6_148 : ML RX6 148 Lib.Math.max.name := wI_19 _ (List.mem_of_getElem? (i := 23) rfl)
theorem ml_L_69 : ML RL 69 yX8_way := wI_20 _ (List.mem_of_getElem? (i := 0) rfl)
theorem ml_X8_157 : ML RX8 157 yX8_allOf := wI_20 _ (List.mem_of_getElem? (i := 4) rfl)
theorem ml_X8_160 : ML RX8 160 yX8_inSacks := wI_20 _ (List.mem_of_getElem? (i := 8) rfl)
theorem ml_X8_163 : ML RX8 163 yX8_trail := wI_20 _ (List.mem_of_getElem? (i := 12) rfl)
theorem ml_L_70 : ML RL 70 yX7_behind := wI_20 _ (List.mem_of_getElem? (i := 16) rfl)
theorem ml_X7_191 : ML RX7 191 yX6_become := wI_20 _ (List.mem_of_getElem? (i := 20) rfl)
theorem ml_X6_53 : ML RX6 53 arraycopyName := wI_21 _ (List.mem_of_getElem? (i := 0) rfl)
theorem fl_X6_71 : FL RX6 71 6 12 := ⟨RX6, TX6, 13, rfl, by decide, wI_21 _ (List.mem_of_getElem? (i := 4) rfl)⟩
theorem ml_X6_49 : ML RX6 49 yX0_become := wI_21 _ (List.mem_of_getElem? (i := 5) rfl)
theorem fl_X0_18 : FL RX0 18 0 2 := ⟨RX0, TX0, 5, rfl, by decide, wI_21 _ (List.mem_of_getElem? (i := 9) rfl)⟩
theorem fl_X0_21 : FL RX0 21 0 3 := ⟨RX0, TX0, 5, rfl, by decide, wI_21 _ (List.mem_of_getElem? (i := 10) rfl)⟩
theorem fl_X0_24 : FL RX0 24 0 4 := ⟨RX0, TX0, 5, rfl, by decide, wI_21 _ (List.mem_of_getElem? (i := 11) rfl)⟩
theorem ml_L_73 : ML RL 73 yX8_behind := wI_21 _ (List.mem_of_getElem? (i := 12) rfl)
theorem ml_X8_166 : ML RX8 166 yX8_laysBy := wI_21 _ (List.mem_of_getElem? (i := 16) rfl)
theorem ml_X8_169 : ML RX8 169 yX8_goesOnMany := wI_21 _ (List.mem_of_getElem? (i := 20) rfl)
theorem ml_X8_172 : ML RX8 172 yX8_laysBack := wI_22 _ (List.mem_of_getElem? (i := 0) rfl)
theorem ml_L_74 : ML RL 74 yX7_empty := wI_22 _ (List.mem_of_getElem? (i := 4) rfl)
theorem kc_X7_199 : KL RX7 199 (-1000000005) := wI_22 _ (List.mem_of_getElem? (i := 8) rfl)
theorem ml_X7_195 : ML RX7 195 yX6_isThrough := wI_22 _ (List.mem_of_getElem? (i := 9) rfl)
theorem ml_L_77 : ML RL 77 yX8_empty := wI_22 _ (List.mem_of_getElem? (i := 13) rfl)
theorem ml_X8_175 : ML RX8 175 yX8_isEmpty := wI_22 _ (List.mem_of_getElem? (i := 17) rfl)
theorem ml_X8_179 : ML RX8 179 yX8_orNone := wI_22 _ (List.mem_of_getElem? (i := 21) rfl)
theorem kc_X8_64 : KL RX8 64 (-1000000005) := wI_23 _ (List.mem_of_getElem? (i := 0) rfl)
theorem ml_L_78 : ML RL 78 yX7_thickest := wI_23 _ (List.mem_of_getElem? (i := 1) rfl)
theorem ml_X7_200 : ML RX7 200 yX6_fullestYard := wI_23 _ (List.mem_of_getElem? (i := 5) rfl)
theorem ml_L_81 : ML RL 81 yX8_thickest := wI_23 _ (List.mem_of_getElem? (i := 9) rfl)
theorem ml_L_82 : ML RL 82 yX7_patch := wI_23 _ (List.mem_of_getElem? (i := 13) rfl)
theorem ml_X7_203 : ML RX7 203 yX7_leftIfPatched := wI_23 _ (List.mem_of_getElem? (i := 17) rfl)
theorem ml_L_85 : ML RL 85 yX8_patch := wI_23 _ (List.mem_of_getElem? (i := 21) rfl)
theorem k2_X8_182 : K2 RX8 182 (60) := wI_24 _ (List.mem_of_getElem? (i := 1) rfl)
theorem ml_L_86 : ML RL 86 yX7_pan := wI_24 _ (List.mem_of_getElem? (i := 2) rfl)
theorem ml_L_89 : ML RL 89 yX8_pan := wI_24 _ (List.mem_of_getElem? (i := 6) rfl)
theorem ml_L_90 : ML RL 90 yX7_whose := wI_24 _ (List.mem_of_getElem? (i := 10) rfl)
theorem kc_X7_212 : KL RX7 212 (-1000000011) := wI_24 _ (List.mem_of_getElem? (i := 14) rfl)
theorem ml_X7_206 : ML RX7 206 yX7_isSheet := wI_24 _ (List.mem_of_getElem? (i := 15) rfl)
theorem ml_X7_209 : ML RX7 209 yX1_isMissing := wI_24 _ (List.mem_of_getElem? (i := 18) rfl)
theorem ml_X7_213 : ML RX7 213 yX7_differenceIfAlone := wI_24 _ (List.mem_of_getElem? (i := 22) rfl)
theorem fl_X7_276 : FL RX7 276 1 2 := ⟨RX1, TX1, 3, rfl, by decide, wI_25 _ (List.mem_of_getElem? (i := 2) rfl)⟩
theorem fl_X7_266 : FL RX7 266 1 0 := ⟨RX1, TX1, 3, rfl, by decide, wI_25 _ (List.mem_of_getElem? (i := 3) rfl)⟩
theorem ml_X7_323 : ML RX7 323 Lib.Math.abs.name := wI_25 _ (List.mem_of_getElem? (i := 4) rfl)
theorem ml_X7_269 : ML RX7 269 yX1_hasNumber := wI_25 _ (List.mem_of_getElem? (i := 7) rfl)
theorem kc_X1_42 : KL RX1 42 (-1000000005) := wI_25 _ (List.mem_of_getElem? (i := 11) rfl)
theorem ml_X1_38 : ML RX1 38 yX1_has := wI_25 _ (List.mem_of_getElem? (i := 12) rfl)
theorem fl_X1_19 : FL RX1 19 1 2 := ⟨RX1, TX1, 3, rfl, by decide, wI_25 _ (List.mem_of_getElem? (i := 16) rfl)⟩
theorem ml_L_93 : ML RL 93 yX8_whose := wI_25 _ (List.mem_of_getElem? (i := 17) rfl)
theorem kc_X8_291 : KL RX8 291 (-1000000011) := wI_25 _ (List.mem_of_getElem? (i := 21) rfl)
theorem ml_X8_285 : ML RX8 285 yX8_isSheet := wI_25 _ (List.mem_of_getElem? (i := 22) rfl)
theorem ml_X8_297 : ML RX8 297 yX8_off := wI_26 _ (List.mem_of_getElem? (i := 1) rfl)
theorem ml_L_94 : ML RL 94 yX7_fee := wI_26 _ (List.mem_of_getElem? (i := 4) rfl)
theorem ml_X7_217 : ML RX7 217 yX6_given := wI_26 _ (List.mem_of_getElem? (i := 8) rfl)
theorem ml_L_97 : ML RL 97 yX8_fee := wI_26 _ (List.mem_of_getElem? (i := 9) rfl)
theorem ml_L_98 : ML RL 98 yX7_fine := wI_26 _ (List.mem_of_getElem? (i := 13) rfl)
theorem ml_L_101 : ML RL 101 yX8_fine := wI_26 _ (List.mem_of_getElem? (i := 17) rfl)
theorem ml_L_102 : ML RL 102 yX7_feed := wI_26 _ (List.mem_of_getElem? (i := 21) rfl)
theorem fl_X7_221 : FL RX7 221 3 1 := ⟨RX3, TX3, 2, rfl, by decide, wI_27 _ (List.mem_of_getElem? (i := 1) rfl)⟩
theorem ml_X7_224 : ML RX7 224 yX3_addBytesOf := wI_27 _ (List.mem_of_getElem? (i := 2) rfl)
theorem fl_X3_15 : FL RX3 15 3 1 := ⟨RX3, TX3, 2, rfl, by decide, wI_27 _ (List.mem_of_getElem? (i := 6) rfl)⟩
theorem ml_L_105 : ML RL 105 yX8_feed := wI_27 _ (List.mem_of_getElem? (i := 7) rfl)
theorem fl_X8_184 : FL RX8 184 8 14 := ⟨RX8, TX8, 31, rfl, by decide, wI_27 _ (List.mem_of_getElem? (i := 11) rfl)⟩
theorem ml_L_106 : ML RL 106 yX7_trim := wI_27 _ (List.mem_of_getElem? (i := 12) rfl)
theorem ml_L_109 : ML RL 109 yX8_trim := wI_27 _ (List.mem_of_getElem? (i := 16) rfl)
theorem ml_L_110 : ML RL 110 yX7_text := wI_27 _ (List.mem_of_getElem? (i := 20) rfl)
theorem fl_X7_230 : FL RX7 230 5 1 := ⟨RX5, TX5, 5, rfl, by decide, wI_28 _ (List.mem_of_getElem? (i := 0) rfl)⟩
theorem fl_X7_233 : FL RX7 233 6 12 := ⟨RX6, TX6, 13, rfl, by decide, wI_28 _ (List.mem_of_getElem? (i := 1) rfl)⟩
theorem fl_X7_236 : FL RX7 236 5 0 := ⟨RX5, TX5, 5, rfl, by decide, wI_28 _ (List.mem_of_getElem? (i := 2) rfl)⟩
theorem fl_X7_243 : FL RX7 243 6 5 := ⟨RX6, TX6, 13, rfl, by decide, wI_28 _ (List.mem_of_getElem? (i := 3) rfl)⟩
theorem fl_X7_246 : FL RX7 246 4 2 := ⟨RX4, TX4, 5, rfl, by decide, wI_28 _ (List.mem_of_getElem? (i := 4) rfl)⟩
theorem ml_X7_227 : ML RX7 227 yX5_readTape := wI_28 _ (List.mem_of_getElem? (i := 5) rfl)
theorem fl_X5_19 : FL RX5 19 5 3 := ⟨RX5, TX5, 5, rfl, by decide, wI_28 _ (List.mem_of_getElem? (i := 9) rfl)⟩
theorem fl_X5_23 : FL RX5 23 5 4 := ⟨RX5, TX5, 5, rfl, by decide, wI_28 _ (List.mem_of_getElem? (i := 10) rfl)⟩
theorem ml_X5_26 : ML RX5 26 yX5_stepOn := wI_28 _ (List.mem_of_getElem? (i := 11) rfl)
theorem fl_X5_61 : FL RX5 61 5 1 := ⟨RX5, TX5, 5, rfl, by decide, wI_28 _ (List.mem_of_getElem? (i := 15) rfl)⟩
theorem fl_X5_109 : FL RX5 109 3 1 := ⟨RX3, TX3, 2, rfl, by decide, wI_28 _ (List.mem_of_getElem? (i := 16) rfl)⟩
theorem ml_X5_64 : ML RX5 64 yX3_byteAt := wI_28 _ (List.mem_of_getElem? (i := 17) rfl)
theorem ml_X5_112 : ML RX5 112 yX5_sortOf := wI_28 _ (List.mem_of_getElem? (i := 21) rfl)
theorem ml_X5_29 : ML RX5 29 yX5_readKey := wI_29 _ (List.mem_of_getElem? (i := 0) rfl)
theorem ml_X5_37 : ML RX5 37 yX5_wordOf := wI_29 _ (List.mem_of_getElem? (i := 4) rfl)
theorem ml_X5_41 : ML RX5 41 yX5_spells := wI_29 _ (List.mem_of_getElem? (i := 7) rfl)
theorem ml_X5_118 : ML RX5 118 yJ0_length_8abf5 := wI_29 _ (List.mem_of_getElem? (i := 11) rfl)
theorem ml_J0_335 : ML RJ0 335 yJ0_coder_7d493 := wI_29 _ (List.mem_of_getElem? (i := 17) rfl)
theorem ml_X5_121 : ML RX5 121 yJ0_charAt_5068e := wI_29 _ (List.mem_of_getElem? (i := 23) rfl)
theorem ml_J0_492 : ML RJ0 492 yJ0_isLatin1_aae02 := wI_30 _ (List.mem_of_getElem? (i := 3) rfl)
theorem ml_J0_495 : ML RJ0 495 yJ1_charAt_3b067 := wI_30 _ (List.mem_of_getElem? (i := 7) rfl)
theorem ml_J1_9 : ML RJ1 9 yJ0_checkIndex_df160 := wI_30 _ (List.mem_of_getElem? (i := 11) rfl)
theorem ml_J0_1059 : ML RJ0 1059 yJ3_checkIndex_8e157 := wI_30 _ (List.mem_of_getElem? (i := 15) rfl)
theorem ml_J0_498 : ML RJ0 498 yJ2_charAt_3b067 := wI_30 _ (List.mem_of_getElem? (i := 19) rfl)
theorem ml_J2_67 : ML RJ2 67 yJ2_checkIndex_2214a := wI_30 _ (List.mem_of_getElem? (i := 23) rfl)
theorem ml_J2_48 : ML RJ2 48 yJ2_length_9d52b := wI_31 _ (List.mem_of_getElem? (i := 2) rfl)
theorem ml_J2_414 : ML RJ2 414 yJ0_checkIndex_df160 := wI_31 _ (List.mem_of_getElem? (i := 5) rfl)
theorem ml_J2_71 : ML RJ2 71 yJ2_getChar_3b067 := wI_31 _ (List.mem_of_getElem? (i := 6) rfl)
theorem ml_X5_45 : ML RX5 45 yX4_begin := wI_31 _ (List.mem_of_getElem? (i := 12) rfl)
theorem fl_X4_18 : FL RX4 18 4 2 := ⟨RX4, TX4, 5, rfl, by decide, wI_31 _ (List.mem_of_getElem? (i := 16) rfl)⟩
theorem fl_X4_25 : FL RX4 25 4 3 := ⟨RX4, TX4, 5, rfl, by decide, wI_31 _ (List.mem_of_getElem? (i := 17) rfl)⟩
theorem ml_X5_33 : ML RX5 33 yX5_readLevel := wI_31 _ (List.mem_of_getElem? (i := 18) rfl)
theorem ml_X5_51 : ML RX5 51 yX5_readPiece := wI_31 _ (List.mem_of_getElem? (i := 22) rfl)
theorem ml_X5_55 : ML RX5 55 yX5_signsOf := wI_32 _ (List.mem_of_getElem? (i := 1) rfl)
theorem ml_X5_58 : ML RX5 58 yX5_isOneOf := wI_32 _ (List.mem_of_getElem? (i := 4) rfl)
theorem ml_X5_99 : ML RX5 99 yJ0_indexOf_0f7a4 := wI_32 _ (List.mem_of_getElem? (i := 8) rfl)
theorem ml_J0_633 : ML RJ0 633 yJ0_indexOf_7cf53 := wI_32 _ (List.mem_of_getElem? (i := 12) rfl)
theorem ml_J0_505 : ML RJ0 505 yJ0_length_8abf5 := wI_32 _ (List.mem_of_getElem? (i := 16) rfl)
theorem ml_J0_637 : ML RJ0 637 yJ1_indexOf_4cfef := wI_32 _ (List.mem_of_getElem? (i := 17) rfl)
theorem ml_J1_92 : ML RJ1 92 Lib.Math.max.name := wI_32 _ (List.mem_of_getElem? (i := 20) rfl)
theorem ml_J1_38 : ML RJ1 38 Lib.Math.min.name := wI_32 _ (List.mem_of_getElem? (i := 21) rfl)
theorem ml_J1_88 : ML RJ1 88 yJ1_canEncode_9a6ad := wI_32 _ (List.mem_of_getElem? (i := 22) rfl)
theorem ml_J1_95 : ML RJ1 95 yJ1_indexOfChar_4cfef := wI_33 _ (List.mem_of_getElem? (i := 1) rfl)
theorem ml_J0_640 : ML RJ0 640 yJ2_indexOf_4cfef := wI_33 _ (List.mem_of_getElem? (i := 4) rfl)
theorem ml_J2_224 : ML RJ2 224 Lib.Math.max.name := wI_33 _ (List.mem_of_getElem? (i := 7) rfl)
theorem ml_J2_183 : ML RJ2 183 Lib.Math.min.name := wI_33 _ (List.mem_of_getElem? (i := 8) rfl)
theorem kc_J2_227 : KL RJ2 227 (65536) := wI_33 _ (List.mem_of_getElem? (i := 9) rfl)
theorem ml_J2_228 : ML RJ2 228 yJ2_indexOfChar_4cfef := wI_33 _ (List.mem_of_getElem? (i := 10) rfl)
theorem ml_J2_96 : ML RJ2 96 yJ2_checkBoundsBeginEnd_d044e := wI_33 _ (List.mem_of_getElem? (i := 13) rfl)
theorem ml_J2_241 : ML RJ2 241 yJ0_checkBoundsBeginEnd_23922 := wI_33 _ (List.mem_of_getElem? (i := 16) rfl)
theorem ml_J0_1062 : ML RJ0 1062 yJ3_checkFromToIndex_8c36e := wI_33 _ (List.mem_of_getElem? (i := 19) rfl)
theorem ml_J2_244 : ML RJ2 244 yJ2_indexOfCharUnsafe_4cfef := wI_33 _ (List.mem_of_getElem? (i := 22) rfl)
theorem ml_J2_232 : ML RJ2 232 yJ2_indexOfSupplementary_4cfef := wI_34 _ (List.mem_of_getElem? (i := 1) rfl)
theorem ml_J2_164 : ML RJ2 164 yJ11_isValidCodePoint_9a6ad := wI_34 _ (List.mem_of_getElem? (i := 4) rfl)
theorem ml_J2_157 : ML RJ2 157 yJ11_highSurrogate_5068e := wI_34 _ (List.mem_of_getElem? (i := 8) rfl)
theorem kc_J11_110 : KL RJ11 110 (55232) := wI_34 _ (List.mem_of_getElem? (i := 11) rfl)
theorem ml_J2_161 : ML RJ2 161 yJ11_lowSurrogate_5068e := wI_34 _ (List.mem_of_getElem? (i := 12) rfl)
theorem kc_J11_76 : KL RJ11 76 (56320) := wI_34 _ (List.mem_of_getElem? (i := 15) rfl)
theorem ml_X5_70 : ML RX5 70 yX4_addSign := wI_34 _ (List.mem_of_getElem? (i := 16) rfl)
theorem ml_X4_34 : ML RX4 34 yX4_addStep := wI_34 _ (List.mem_of_getElem? (i := 20) rfl)
theorem ml_X5_73 : ML RX5 73 yX5_number := wI_35 _ (List.mem_of_getElem? (i := 3) rfl)
theorem ml_X5_77 : ML RX5 77 yX4_addNumber := wI_35 _ (List.mem_of_getElem? (i := 7) rfl)
theorem ml_X5_80 : ML RX5 80 yX5_readName := wI_35 _ (List.mem_of_getElem? (i := 11) rfl)
theorem fl_X5_93 : FL RX5 93 4 2 := ⟨RX4, TX4, 5, rfl, by decide, wI_35 _ (List.mem_of_getElem? (i := 15) rfl)⟩
theorem ml_X5_96 : ML RX5 96 yX5_namesOf := wI_35 _ (List.mem_of_getElem? (i := 16) rfl)
theorem ml_X5_104 : ML RX5 104 yX4_addName := wI_35 _ (List.mem_of_getElem? (i := 19) rfl)
theorem ml_X5_85 : ML RX5 85 yX5_readNot := wI_35 _ (List.mem_of_getElem? (i := 23) rfl)
theorem ml_X5_90 : ML RX5 90 yX5_readBrackets := wI_36 _ (List.mem_of_getElem? (i := 2) rfl)
theorem ml_X7_240 : ML RX7 240 yX4_become := wI_36 _ (List.mem_of_getElem? (i := 5) rfl)
theorem ml_X4_28 : ML RX4 28 arraycopyName := wI_36 _ (List.mem_of_getElem? (i := 9) rfl)
theorem ml_L_113 : ML RL 113 yX8_text := wI_36 _ (List.mem_of_getElem? (i := 10) rfl)
theorem fl_X8_202 : FL RX8 202 8 15 := ⟨RX8, TX8, 31, rfl, by decide, wI_36 _ (List.mem_of_getElem? (i := 14) rfl)⟩
theorem fl_X8_252 : FL RX8 252 8 24 := ⟨RX8, TX8, 31, rfl, by decide, wI_36 _ (List.mem_of_getElem? (i := 15) rfl)⟩
theorem fl_X8_224 : FL RX8 224 8 22 := ⟨RX8, TX8, 31, rfl, by decide, wI_36 _ (List.mem_of_getElem? (i := 16) rfl)⟩
theorem ml_X8_273 : ML RX8 273 yX8_parse := wI_36 _ (List.mem_of_getElem? (i := 17) rfl)
theorem fl_X8_196 : FL RX8 196 8 16 := ⟨RX8, TX8, 31, rfl, by decide, wI_36 _ (List.mem_of_getElem? (i := 21) rfl)⟩
theorem fl_X8_199 : FL RX8 199 8 17 := ⟨RX8, TX8, 31, rfl, by decide, wI_36 _ (List.mem_of_getElem? (i := 22) rfl)⟩
theorem fl_X8_261 : FL RX8 261 8 20 := ⟨RX8, TX8, 31, rfl, by decide, wI_36 _ (List.mem_of_getElem? (i := 23) rfl)⟩
theorem fl_X8_258 : FL RX8 258 8 21 := ⟨RX8, TX8, 31, rfl, by decide, wI_37 _ (List.mem_of_getElem? (i := 0) rfl)⟩
theorem fl_X8_221 : FL RX8 221 8 23 := ⟨RX8, TX8, 31, rfl, by decide, wI_37 _ (List.mem_of_getElem? (i := 1) rfl)⟩
theorem ml_X8_233 : ML RX8 233 yX8_nextToken := wI_37 _ (List.mem_of_getElem? (i := 2) rfl)
theorem fl_X8_208 : FL RX8 208 8 19 := ⟨RX8, TX8, 31, rfl, by decide, wI_37 _ (List.mem_of_getElem? (i := 6) rfl)⟩
theorem fl_X8_214 : FL RX8 214 8 18 := ⟨RX8, TX8, 31, rfl, by decide, wI_37 _ (List.mem_of_getElem? (i := 7) rfl)⟩
theorem ml_X8_205 : ML RX8 205 yX8_isLetter := wI_37 _ (List.mem_of_getElem? (i := 8) rfl)
theorem k2_X8_188 : K2 RX8 188 (97) := wI_37 _ (List.mem_of_getElem? (i := 12) rfl)
theorem k2_X8_190 : K2 RX8 190 (122) := wI_37 _ (List.mem_of_getElem? (i := 13) rfl)
theorem ml_X8_211 : ML RX8 211 yX8_isDigit := wI_37 _ (List.mem_of_getElem? (i := 14) rfl)
theorem k2_X8_192 : K2 RX8 192 (48) := wI_37 _ (List.mem_of_getElem? (i := 18) rfl)
theorem k2_X8_194 : K2 RX8 194 (57) := wI_37 _ (List.mem_of_getElem? (i := 19) rfl)
theorem ml_X8_270 : ML RX8 270 yX8_key := wI_37 _ (List.mem_of_getElem? (i := 20) rfl)
theorem ml_X8_217 : ML RX8 217 yX8_isWordAt := wI_38 _ (List.mem_of_getElem? (i := 0) rfl)
theorem ml_X8_264 : ML RX8 264 yX8_either := wI_38 _ (List.mem_of_getElem? (i := 4) rfl)
theorem ml_X8_227 : ML RX8 227 yX8_both := wI_38 _ (List.mem_of_getElem? (i := 8) rfl)
theorem ml_X8_230 : ML RX8 230 yX8_isSign := wI_38 _ (List.mem_of_getElem? (i := 11) rfl)
theorem ml_X8_236 : ML RX8 236 yX8_step := wI_38 _ (List.mem_of_getElem? (i := 15) rfl)
theorem ml_X8_240 : ML RX8 240 yX8_test := wI_38 _ (List.mem_of_getElem? (i := 20) rfl)
theorem ml_X8_255 : ML RX8 255 yX8_isName := wI_39 _ (List.mem_of_getElem? (i := 0) rfl)
theorem ml_X8_249 : ML RX8 249 yX8_part0 := wI_39 _ (List.mem_of_getElem? (i := 3) rfl)
theorem ml_X8_246 : ML RX8 246 yX8_term := wI_39 _ (List.mem_of_getElem? (i := 7) rfl)
theorem ml_X8_243 : ML RX8 243 yX8_sum := wI_39 _ (List.mem_of_getElem? (i := 12) rfl)
theorem ml_L_114 : ML RL 114 yX7_textTold := wI_39 _ (List.mem_of_getElem? (i := 15) rfl)
theorem fl_X7_249 : FL RX7 249 4 3 := ⟨RX4, TX4, 5, rfl, by decide, wI_39 _ (List.mem_of_getElem? (i := 19) rfl)⟩
theorem ml_L_117 : ML RL 117 yX8_textTold := wI_39 _ (List.mem_of_getElem? (i := 20) rfl)
theorem ml_X8_276 : ML RX8 276 yX8_isText := wI_40 _ (List.mem_of_getElem? (i := 0) rfl)
theorem ml_L_118 : ML RL 118 yX7_why := wI_40 _ (List.mem_of_getElem? (i := 4) rfl)
theorem ml_L_121 : ML RL 121 yX8_why := wI_40 _ (List.mem_of_getElem? (i := 8) rfl)
theorem k2_X8_279 : K2 RX8 279 (2) := wI_40 _ (List.mem_of_getElem? (i := 12) rfl)
theorem ml_L_122 : ML RL 122 yX7_sheet := wI_40 _ (List.mem_of_getElem? (i := 13) rfl)
theorem kc_X7_256 : KL RX7 256 (-1000000014) := wI_40 _ (List.mem_of_getElem? (i := 17) rfl)
theorem ml_X7_252 : ML RX7 252 yX1_begin := wI_40 _ (List.mem_of_getElem? (i := 18) rfl)
theorem ml_X1_22 : ML RX1 22 yJ7_fill_53178 := wI_40 _ (List.mem_of_getElem? (i := 22) rfl)
theorem ml_L_125 : ML RL 125 yX8_sheet := wI_40 _ (List.mem_of_getElem? (i := 23) rfl)
theorem k2_X8_288 : K2 RX8 288 (-1) := wI_41 _ (List.mem_of_getElem? (i := 3) rfl)
theorem kc_X8_290 : KL RX8 290 (-1000000014) := wI_41 _ (List.mem_of_getElem? (i := 4) rfl)
theorem ml_L_126 : ML RL 126 yX7_mark := wI_41 _ (List.mem_of_getElem? (i := 5) rfl)
theorem kc_X7_260 : KL RX7 260 (-1000000013) := wI_41 _ (List.mem_of_getElem? (i := 9) rfl)
theorem fl_X7_261 : FL RX7 261 1 1 := ⟨RX1, TX1, 3, rfl, by decide, wI_41 _ (List.mem_of_getElem? (i := 10) rfl)⟩
theorem kc_X7_264 : KL RX7 264 (-99999) := wI_41 _ (List.mem_of_getElem? (i := 11) rfl)
theorem kc_X7_265 : KL RX7 265 (99999) := wI_41 _ (List.mem_of_getElem? (i := 12) rfl)
theorem ml_X7_257 : ML RX7 257 yX1_has := wI_41 _ (List.mem_of_getElem? (i := 13) rfl)
theorem ml_L_129 : ML RL 129 yX8_mark := wI_41 _ (List.mem_of_getElem? (i := 14) rfl)
theorem kc_X8_292 : KL RX8 292 (-1000000013) := wI_41 _ (List.mem_of_getElem? (i := 18) rfl)
theorem k2_X8_293 : K2 RX8 293 (-99999) := wI_41 _ (List.mem_of_getElem? (i := 19) rfl)
theorem k2_X8_295 : K2 RX8 295 (99999) := wI_41 _ (List.mem_of_getElem? (i := 20) rfl)
theorem ml_L_130 : ML RL 130 yX7_pour := wI_41 _ (List.mem_of_getElem? (i := 21) rfl)
theorem ml_X7_272 : ML RX7 272 yX7_held := wI_42 _ (List.mem_of_getElem? (i := 1) rfl)
theorem ml_L_133 : ML RL 133 yX8_pour := wI_42 _ (List.mem_of_getElem? (i := 2) rfl)
theorem ml_L_134 : ML RL 134 yX7_reads := wI_42 _ (List.mem_of_getElem? (i := 6) rfl)
theorem ml_L_137 : ML RL 137 yX8_reads := wI_42 _ (List.mem_of_getElem? (i := 10) rfl)
theorem ml_L_138 : ML RL 138 yX7_copy := wI_42 _ (List.mem_of_getElem? (i := 14) rfl)
theorem ml_X7_280 : ML RX7 280 arraycopyName := wI_42 _ (List.mem_of_getElem? (i := 18) rfl)
theorem ml_X7_277 : ML RX7 277 yX1_hasRow := wI_42 _ (List.mem_of_getElem? (i := 19) rfl)
theorem ml_L_142 : ML RL 142 yX8_copy := wI_42 _ (List.mem_of_getElem? (i := 23) rfl)
theorem ml_L_143 : ML RL 143 yX7_lay := wI_43 _ (List.mem_of_getElem? (i := 3) rfl)
theorem fl_X7_289 : FL RX7 289 2 2 := ⟨RX2, TX2, 4, rfl, by decide, wI_43 _ (List.mem_of_getElem? (i := 7) rfl)⟩
theorem fl_X7_292 : FL RX7 292 2 0 := ⟨RX2, TX2, 4, rfl, by decide, wI_43 _ (List.mem_of_getElem? (i := 8) rfl)⟩
theorem fl_X7_299 : FL RX7 299 2 1 := ⟨RX2, TX2, 4, rfl, by decide, wI_43 _ (List.mem_of_getElem? (i := 9) rfl)⟩
theorem fl_X7_306 : FL RX7 306 2 3 := ⟨RX2, TX2, 4, rfl, by decide, wI_43 _ (List.mem_of_getElem? (i := 10) rfl)⟩
theorem ml_X7_286 : ML RX7 286 yX7_isSlot := wI_43 _ (List.mem_of_getElem? (i := 11) rfl)
theorem ml_X7_296 : ML RX7 296 yX0_become := wI_43 _ (List.mem_of_getElem? (i := 14) rfl)
theorem ml_X7_303 : ML RX7 303 yX1_become := wI_43 _ (List.mem_of_getElem? (i := 15) rfl)
theorem ml_X1_28 : ML RX1 28 arraycopyName := wI_43 _ (List.mem_of_getElem? (i := 19) rfl)
theorem ml_L_146 : ML RL 146 yX8_lay := wI_43 _ (List.mem_of_getElem? (i := 20) rfl)
theorem ml_X8_300 : ML RX8 300 yX8_isSlot := wI_44 _ (List.mem_of_getElem? (i := 0) rfl)
theorem ml_L_147 : ML RL 147 yX7_ask := wI_44 _ (List.mem_of_getElem? (i := 3) rfl)
theorem ml_L_150 : ML RL 150 yX8_ask := wI_44 _ (List.mem_of_getElem? (i := 7) rfl)
theorem ml_L_151 : ML RL 151 yX7_item := wI_44 _ (List.mem_of_getElem? (i := 11) rfl)
theorem ml_L_154 : ML RL 154 yX8_item := wI_44 _ (List.mem_of_getElem? (i := 15) rfl)
theorem ml_L_155 : ML RL 155 yX7_rest := wI_44 _ (List.mem_of_getElem? (i := 19) rfl)
theorem kc_X7_309 : KL RX7 309 (-1000000002) := wI_44 _ (List.mem_of_getElem? (i := 23) rfl)
theorem ml_L_158 : ML RL 158 yX8_rest := wI_45 _ (List.mem_of_getElem? (i := 0) rfl)
theorem kc_X8_303 : KL RX8 303 (-1000000002) := wI_45 _ (List.mem_of_getElem? (i := 4) rfl)
theorem ml_L_159 : ML RL 159 yX7_tell := wI_45 _ (List.mem_of_getElem? (i := 5) rfl)
theorem fl_X7_310 : FL RX7 310 7 10 := ⟨RX7, TX7, 11, rfl, by decide, wI_45 _ (List.mem_of_getElem? (i := 9) rfl)⟩
theorem ml_L_162 : ML RL 162 yX8_tell := wI_45 _ (List.mem_of_getElem? (i := 10) rfl)
theorem fl_X8_304 : FL RX8 304 8 29 := ⟨RX8, TX8, 31, rfl, by decide, wI_45 _ (List.mem_of_getElem? (i := 14) rfl)⟩
theorem ml_L_163 : ML RL 163 yX7_check := wI_45 _ (List.mem_of_getElem? (i := 15) rfl)
theorem fl_X7_313 : FL RX7 313 7 9 := ⟨RX7, TX7, 11, rfl, by decide, wI_45 _ (List.mem_of_getElem? (i := 19) rfl)⟩
theorem ml_L_166 : ML RL 166 yX8_check := wI_45 _ (List.mem_of_getElem? (i := 20) rfl)
theorem k2_X8_307 : K2 RX8 307 (30) := wI_46 _ (List.mem_of_getElem? (i := 0) rfl)
theorem fl_X8_309 : FL RX8 309 8 3 := ⟨RX8, TX8, 31, rfl, by decide, wI_46 _ (List.mem_of_getElem? (i := 1) rfl)⟩
theorem ml_X8_313 : ML RX8 313 yX8_setAside := wI_46 _ (List.mem_of_getElem? (i := 2) rfl)
theorem ml_L_167 : ML RL 167 yX7_keep := wI_46 _ (List.mem_of_getElem? (i := 6) rfl)
theorem ml_L_170 : ML RL 170 yX8_keep := wI_46 _ (List.mem_of_getElem? (i := 10) rfl)
theorem ml_L_171 : ML RL 171 yX7_back := wI_46 _ (List.mem_of_getElem? (i := 14) rfl)
theorem ml_L_174 : ML RL 174 yX8_back := wI_46 _ (List.mem_of_getElem? (i := 18) rfl)
theorem ml_L_175 : ML RL 175 yX7_count := wI_46 _ (List.mem_of_getElem? (i := 22) rfl)
theorem fl_X7_317 : FL RX7 317 6 10 := ⟨RX6, TX6, 13, rfl, by decide, wI_47 _ (List.mem_of_getElem? (i := 2) rfl)⟩
theorem ml_L_178 : ML RL 178 yX8_count := wI_47 _ (List.mem_of_getElem? (i := 3) rfl)
theorem cd_J7_fill_53178 : CD yJ7_fill_53178 cJ7_fill_53178 4 none 2 := ⟨wI_4 _ (List.mem_of_getElem? (i := 5) rfl), wI_4 _ (List.mem_of_getElem? (i := 4) rfl), by decide +kernel, by decide, by decide +kernel⟩
theorem st_J7_fill_53178 : CS yJ7_fill_53178 := wI_4 _ (List.mem_of_getElem? (i := 3) rfl)
theorem cd_X7_mule : CD yX7_mule cX7_mule 5 (some .int) 4 := ⟨wI_5 _ (List.mem_of_getElem? (i := 19) rfl), wI_1 _ (List.mem_of_getElem? (i := 2) rfl), by decide +kernel, by decide, by decide +kernel⟩
theorem iv_X7_mule : CV yX7_mule := ⟨wI_5 _ (List.mem_of_getElem? (i := 17) rfl), wI_5 _ (List.mem_of_getElem? (i := 18) rfl)⟩
theorem cd_X7_isKind : CD yX7_isKind cX7_isKind 1 (some .boolean) 1 := ⟨wI_6 _ (List.mem_of_getElem? (i := 1) rfl), wI_1 _ (List.mem_of_getElem? (i := 2) rfl), by decide +kernel, by decide, by decide +kernel⟩
theorem st_X7_isKind : CS yX7_isKind := wI_6 _ (List.mem_of_getElem? (i := 0) rfl)
theorem cd_X7_within : CD yX7_within cX7_within 3 (some .boolean) 3 := ⟨wI_6 _ (List.mem_of_getElem? (i := 4) rfl), wI_1 _ (List.mem_of_getElem? (i := 2) rfl), by decide +kernel, by decide, by decide +kernel⟩
theorem st_X7_within : CS yX7_within := wI_6 _ (List.mem_of_getElem? (i := 3) rfl)
theorem cd_X6_addMule : CD yX6_addMule cX6_addMule 6 none 4 := ⟨wI_6 _ (List.mem_of_getElem? (i := 8) rfl), wI_2 _ (List.mem_of_getElem? (i := 3) rfl), by decide +kernel, by decide, by decide +kernel⟩
theorem iv_X6_addMule : CV yX6_addMule := ⟨wI_6 _ (List.mem_of_getElem? (i := 6) rfl), wI_6 _ (List.mem_of_getElem? (i := 7) rfl)⟩
theorem cd_X8_mule : CD yX8_mule cX8_mule 5 (some .int) 4 := ⟨wI_6 _ (List.mem_of_getElem? (i := 18) rfl), wI_1 _ (List.mem_of_getElem? (i := 5) rfl), by decide +kernel, by decide, by decide +kernel⟩
theorem iv_X8_mule : CV yX8_mule := ⟨wI_6 _ (List.mem_of_getElem? (i := 16) rfl), wI_6 _ (List.mem_of_getElem? (i := 17) rfl)⟩
theorem cd_X8_isIn : CD yX8_isIn cX8_isIn 6 (some .boolean) 3 := ⟨wI_7 _ (List.mem_of_getElem? (i := 3) rfl), wI_1 _ (List.mem_of_getElem? (i := 5) rfl), by decide +kernel, by decide, by decide +kernel⟩
theorem st_X8_isIn : CS yX8_isIn := wI_7 _ (List.mem_of_getElem? (i := 2) rfl)
theorem cd_X8_comes : CD yX8_comes cX8_comes 6 none 4 := ⟨wI_7 _ (List.mem_of_getElem? (i := 7) rfl), wI_1 _ (List.mem_of_getElem? (i := 5) rfl), by decide +kernel, by decide, by decide +kernel⟩
theorem iv_X8_comes : CV yX8_comes := ⟨wI_7 _ (List.mem_of_getElem? (i := 5) rfl), wI_7 _ (List.mem_of_getElem? (i := 6) rfl)⟩
theorem cd_X8_sets : CD yX8_sets cX8_sets 4 none 3 := ⟨wI_7 _ (List.mem_of_getElem? (i := 11) rfl), wI_1 _ (List.mem_of_getElem? (i := 5) rfl), by decide +kernel, by decide, by decide +kernel⟩
theorem iv_X8_sets : CV yX8_sets := ⟨wI_7 _ (List.mem_of_getElem? (i := 9) rfl), wI_7 _ (List.mem_of_getElem? (i := 10) rfl)⟩
theorem cd_X7_told : CD yX7_told cX7_told 4 (some .int) 2 := ⟨wI_7 _ (List.mem_of_getElem? (i := 15) rfl), wI_1 _ (List.mem_of_getElem? (i := 2) rfl), by decide +kernel, by decide, by decide +kernel⟩
theorem iv_X7_told : CV yX7_told := ⟨wI_7 _ (List.mem_of_getElem? (i := 13) rfl), wI_7 _ (List.mem_of_getElem? (i := 14) rfl)⟩
theorem cd_X7_isMule : CD yX7_isMule cX7_isMule 2 (some .boolean) 1 := ⟨wI_8 _ (List.mem_of_getElem? (i := 1) rfl), wI_1 _ (List.mem_of_getElem? (i := 2) rfl), by decide +kernel, by decide, by decide +kernel⟩
theorem iv_X7_isMule : CV yX7_isMule := ⟨wI_7 _ (List.mem_of_getElem? (i := 23) rfl), wI_8 _ (List.mem_of_getElem? (i := 0) rfl)⟩
theorem cd_X6_leaksOf : CD yX6_leaksOf cX6_leaksOf 3 (some .int) 1 := ⟨wI_8 _ (List.mem_of_getElem? (i := 5) rfl), wI_2 _ (List.mem_of_getElem? (i := 3) rfl), by decide +kernel, by decide, by decide +kernel⟩
theorem iv_X6_leaksOf : CV yX6_leaksOf := ⟨wI_8 _ (List.mem_of_getElem? (i := 3) rfl), wI_8 _ (List.mem_of_getElem? (i := 4) rfl)⟩
theorem cd_X6_given : CD yX6_given cX6_given 7 (some .int) 5 := ⟨wI_8 _ (List.mem_of_getElem? (i := 9) rfl), wI_2 _ (List.mem_of_getElem? (i := 3) rfl), by decide +kernel, by decide, by decide +kernel⟩
theorem iv_X6_given : CV yX6_given := ⟨wI_8 _ (List.mem_of_getElem? (i := 7) rfl), wI_8 _ (List.mem_of_getElem? (i := 8) rfl)⟩
theorem cd_X4_give : CD yX4_give cX4_give 7 (some .int) 3 := ⟨wI_8 _ (List.mem_of_getElem? (i := 13) rfl), wI_1 _ (List.mem_of_getElem? (i := 16) rfl), by decide +kernel, by decide, by decide +kernel⟩
theorem iv_X4_give : CV yX4_give := ⟨wI_8 _ (List.mem_of_getElem? (i := 11) rfl), wI_8 _ (List.mem_of_getElem? (i := 12) rfl)⟩
theorem cd_X4_workOut : CD yX4_workOut cX4_workOut 3 (some .int) 3 := ⟨wI_8 _ (List.mem_of_getElem? (i := 17) rfl), wI_1 _ (List.mem_of_getElem? (i := 16) rfl), by decide +kernel, by decide, by decide +kernel⟩
theorem st_X4_workOut : CS yX4_workOut := wI_8 _ (List.mem_of_getElem? (i := 16) rfl)
theorem cd_X7_held : CD yX7_held cX7_held 3 (some .int) 3 := ⟨wI_8 _ (List.mem_of_getElem? (i := 19) rfl), wI_1 _ (List.mem_of_getElem? (i := 2) rfl), by decide +kernel, by decide, by decide +kernel⟩
theorem st_X7_held : CS yX7_held := wI_8 _ (List.mem_of_getElem? (i := 18) rfl)
theorem cd_X0_leaks : CD yX0_leaks cX0_leaks 2 (some .int) 1 := ⟨wI_9 _ (List.mem_of_getElem? (i := 6) rfl), wI_3 _ (List.mem_of_getElem? (i := 16) rfl), by decide +kernel, by decide, by decide +kernel⟩
theorem iv_X0_leaks : CV yX0_leaks := ⟨wI_9 _ (List.mem_of_getElem? (i := 4) rfl), wI_9 _ (List.mem_of_getElem? (i := 5) rfl)⟩
theorem cd_X0_goes : CD yX0_goes cX0_goes 1 (some .int) 0 := ⟨wI_9 _ (List.mem_of_getElem? (i := 12) rfl), wI_3 _ (List.mem_of_getElem? (i := 16) rfl), by decide +kernel, by decide, by decide +kernel⟩
theorem iv_X0_goes : CV yX0_goes := ⟨wI_9 _ (List.mem_of_getElem? (i := 10) rfl), wI_9 _ (List.mem_of_getElem? (i := 11) rfl)⟩
theorem cd_X0_worth : CD yX0_worth cX0_worth 2 (some .int) 0 := ⟨wI_9 _ (List.mem_of_getElem? (i := 17) rfl), wI_3 _ (List.mem_of_getElem? (i := 16) rfl), by decide +kernel, by decide, by decide +kernel⟩
theorem iv_X0_worth : CV yX0_worth := ⟨wI_9 _ (List.mem_of_getElem? (i := 15) rfl), wI_9 _ (List.mem_of_getElem? (i := 16) rfl)⟩
theorem cd_X8_told : CD yX8_told cX8_told 3 (some .int) 2 := ⟨wI_9 _ (List.mem_of_getElem? (i := 21) rfl), wI_1 _ (List.mem_of_getElem? (i := 5) rfl), by decide +kernel, by decide, by decide +kernel⟩
theorem iv_X8_told : CV yX8_told := ⟨wI_9 _ (List.mem_of_getElem? (i := 19) rfl), wI_9 _ (List.mem_of_getElem? (i := 20) rfl)⟩
theorem cd_X8_isMule : CD yX8_isMule cX8_isMule 2 (some .boolean) 1 := ⟨wI_10 _ (List.mem_of_getElem? (i := 1) rfl), wI_1 _ (List.mem_of_getElem? (i := 5) rfl), by decide +kernel, by decide, by decide +kernel⟩
theorem iv_X8_isMule : CV yX8_isMule := ⟨wI_9 _ (List.mem_of_getElem? (i := 23) rfl), wI_10 _ (List.mem_of_getElem? (i := 0) rfl)⟩
theorem cd_X8_of : CD yX8_of cX8_of 3 (some .int) 2 := ⟨wI_10 _ (List.mem_of_getElem? (i := 5) rfl), wI_1 _ (List.mem_of_getElem? (i := 5) rfl), by decide +kernel, by decide, by decide +kernel⟩
theorem iv_X8_of : CV yX8_of := ⟨wI_10 _ (List.mem_of_getElem? (i := 3) rfl), wI_10 _ (List.mem_of_getElem? (i := 4) rfl)⟩
theorem cd_X8_leaks : CD yX8_leaks cX8_leaks 4 (some .int) 1 := ⟨wI_10 _ (List.mem_of_getElem? (i := 9) rfl), wI_1 _ (List.mem_of_getElem? (i := 5) rfl), by decide +kernel, by decide, by decide +kernel⟩
theorem iv_X8_leaks : CV yX8_leaks := ⟨wI_10 _ (List.mem_of_getElem? (i := 7) rfl), wI_10 _ (List.mem_of_getElem? (i := 8) rfl)⟩
theorem cd_X8_counts : CD yX8_counts cX8_counts 4 (some .int) 1 := ⟨wI_10 _ (List.mem_of_getElem? (i := 13) rfl), wI_1 _ (List.mem_of_getElem? (i := 5) rfl), by decide +kernel, by decide, by decide +kernel⟩
theorem iv_X8_counts : CV yX8_counts := ⟨wI_10 _ (List.mem_of_getElem? (i := 11) rfl), wI_10 _ (List.mem_of_getElem? (i := 12) rfl)⟩
theorem cd_X8_textAt : CD yX8_textAt cX8_textAt 2 (some .int) 1 := ⟨wI_10 _ (List.mem_of_getElem? (i := 17) rfl), wI_1 _ (List.mem_of_getElem? (i := 5) rfl), by decide +kernel, by decide, by decide +kernel⟩
theorem iv_X8_textAt : CV yX8_textAt := ⟨wI_10 _ (List.mem_of_getElem? (i := 15) rfl), wI_10 _ (List.mem_of_getElem? (i := 16) rfl)⟩
theorem cd_X8_worked : CD yX8_worked cX8_worked 6 (some .int) 1 := ⟨wI_10 _ (List.mem_of_getElem? (i := 21) rfl), wI_1 _ (List.mem_of_getElem? (i := 5) rfl), by decide +kernel, by decide, by decide +kernel⟩
theorem iv_X8_worked : CV yX8_worked := ⟨wI_10 _ (List.mem_of_getElem? (i := 19) rfl), wI_10 _ (List.mem_of_getElem? (i := 20) rfl)⟩
theorem cd_X8_joined : CD yX8_joined cX8_joined 3 (some .int) 3 := ⟨wI_11 _ (List.mem_of_getElem? (i := 0) rfl), wI_1 _ (List.mem_of_getElem? (i := 5) rfl), by decide +kernel, by decide, by decide +kernel⟩
theorem st_X8_joined : CS yX8_joined := wI_10 _ (List.mem_of_getElem? (i := 23) rfl)
theorem cd_X8_within : CD yX8_within cX8_within 2 (some .int) 2 := ⟨wI_11 _ (List.mem_of_getElem? (i := 3) rfl), wI_1 _ (List.mem_of_getElem? (i := 5) rfl), by decide +kernel, by decide, by decide +kernel⟩
theorem st_X8_within : CS yX8_within := wI_11 _ (List.mem_of_getElem? (i := 2) rfl)
theorem cd_X8_paces : CD yX8_paces cX8_paces 4 (some .int) 1 := ⟨wI_11 _ (List.mem_of_getElem? (i := 7) rfl), wI_1 _ (List.mem_of_getElem? (i := 5) rfl), by decide +kernel, by decide, by decide +kernel⟩
theorem iv_X8_paces : CV yX8_paces := ⟨wI_11 _ (List.mem_of_getElem? (i := 5) rfl), wI_11 _ (List.mem_of_getElem? (i := 6) rfl)⟩
theorem cd_X8_worth : CD yX8_worth cX8_worth 3 (some .int) 1 := ⟨wI_11 _ (List.mem_of_getElem? (i := 11) rfl), wI_1 _ (List.mem_of_getElem? (i := 5) rfl), by decide +kernel, by decide, by decide +kernel⟩
theorem iv_X8_worth : CV yX8_worth := ⟨wI_11 _ (List.mem_of_getElem? (i := 9) rfl), wI_11 _ (List.mem_of_getElem? (i := 10) rfl)⟩
theorem cd_X7_as : CD yX7_as cX7_as 4 (some .int) 2 := ⟨wI_11 _ (List.mem_of_getElem? (i := 15) rfl), wI_1 _ (List.mem_of_getElem? (i := 2) rfl), by decide +kernel, by decide, by decide +kernel⟩
theorem iv_X7_as : CV yX7_as := ⟨wI_11 _ (List.mem_of_getElem? (i := 13) rfl), wI_11 _ (List.mem_of_getElem? (i := 14) rfl)⟩
theorem cd_X0_isOf : CD yX0_isOf cX0_isOf 4 (some .boolean) 1 := ⟨wI_11 _ (List.mem_of_getElem? (i := 20) rfl), wI_3 _ (List.mem_of_getElem? (i := 16) rfl), by decide +kernel, by decide, by decide +kernel⟩
theorem iv_X0_isOf : CV yX0_isOf := ⟨wI_11 _ (List.mem_of_getElem? (i := 18) rfl), wI_11 _ (List.mem_of_getElem? (i := 19) rfl)⟩
theorem cd_X8_as : CD yX8_as cX8_as 3 (some .int) 2 := ⟨wI_12 _ (List.mem_of_getElem? (i := 1) rfl), wI_1 _ (List.mem_of_getElem? (i := 5) rfl), by decide +kernel, by decide, by decide +kernel⟩
theorem iv_X8_as : CV yX8_as := ⟨wI_11 _ (List.mem_of_getElem? (i := 23) rfl), wI_12 _ (List.mem_of_getElem? (i := 0) rfl)⟩
theorem cd_X8_isOf : CD yX8_isOf cX8_isOf 2 (some .boolean) 2 := ⟨wI_12 _ (List.mem_of_getElem? (i := 5) rfl), wI_1 _ (List.mem_of_getElem? (i := 5) rfl), by decide +kernel, by decide, by decide +kernel⟩
theorem st_X8_isOf : CS yX8_isOf := wI_12 _ (List.mem_of_getElem? (i := 4) rfl)
theorem cd_X7_turns : CD yX7_turns cX7_turns 4 (some .int) 2 := ⟨wI_12 _ (List.mem_of_getElem? (i := 9) rfl), wI_1 _ (List.mem_of_getElem? (i := 2) rfl), by decide +kernel, by decide, by decide +kernel⟩
theorem iv_X7_turns : CV yX7_turns := ⟨wI_12 _ (List.mem_of_getElem? (i := 7) rfl), wI_12 _ (List.mem_of_getElem? (i := 8) rfl)⟩
theorem cd_X8_turns : CD yX8_turns cX8_turns 3 (some .int) 2 := ⟨wI_12 _ (List.mem_of_getElem? (i := 13) rfl), wI_1 _ (List.mem_of_getElem? (i := 5) rfl), by decide +kernel, by decide, by decide +kernel⟩
theorem iv_X8_turns : CV yX8_turns := ⟨wI_12 _ (List.mem_of_getElem? (i := 11) rfl), wI_12 _ (List.mem_of_getElem? (i := 12) rfl)⟩
theorem cd_X8_becomes : CD yX8_becomes cX8_becomes 4 (some .int) 2 := ⟨wI_12 _ (List.mem_of_getElem? (i := 17) rfl), wI_1 _ (List.mem_of_getElem? (i := 5) rfl), by decide +kernel, by decide, by decide +kernel⟩
theorem iv_X8_becomes : CV yX8_becomes := ⟨wI_12 _ (List.mem_of_getElem? (i := 15) rfl), wI_12 _ (List.mem_of_getElem? (i := 16) rfl)⟩
theorem cd_X7_set : CD yX7_set cX7_set 6 (some .int) 3 := ⟨wI_12 _ (List.mem_of_getElem? (i := 21) rfl), wI_1 _ (List.mem_of_getElem? (i := 2) rfl), by decide +kernel, by decide, by decide +kernel⟩
theorem iv_X7_set : CV yX7_set := ⟨wI_12 _ (List.mem_of_getElem? (i := 19) rfl), wI_12 _ (List.mem_of_getElem? (i := 20) rfl)⟩
theorem cd_X7_fits : CD yX7_fits cX7_fits 2 (some .boolean) 2 := ⟨wI_13 _ (List.mem_of_getElem? (i := 0) rfl), wI_1 _ (List.mem_of_getElem? (i := 2) rfl), by decide +kernel, by decide, by decide +kernel⟩
theorem st_X7_fits : CS yX7_fits := wI_12 _ (List.mem_of_getElem? (i := 23) rfl)
theorem cd_X7_isYard : CD yX7_isYard cX7_isYard 1 (some .boolean) 1 := ⟨wI_13 _ (List.mem_of_getElem? (i := 3) rfl), wI_1 _ (List.mem_of_getElem? (i := 2) rfl), by decide +kernel, by decide, by decide +kernel⟩
theorem st_X7_isYard : CS yX7_isYard := wI_13 _ (List.mem_of_getElem? (i := 2) rfl)
theorem cd_X8_set : CD yX8_set cX8_set 4 (some .int) 3 := ⟨wI_13 _ (List.mem_of_getElem? (i := 7) rfl), wI_1 _ (List.mem_of_getElem? (i := 5) rfl), by decide +kernel, by decide, by decide +kernel⟩
theorem iv_X8_set : CV yX8_set := ⟨wI_13 _ (List.mem_of_getElem? (i := 5) rfl), wI_13 _ (List.mem_of_getElem? (i := 6) rfl)⟩
theorem cd_X8_mostOf : CD yX8_mostOf cX8_mostOf 1 (some .int) 1 := ⟨wI_13 _ (List.mem_of_getElem? (i := 11) rfl), wI_1 _ (List.mem_of_getElem? (i := 5) rfl), by decide +kernel, by decide, by decide +kernel⟩
theorem st_X8_mostOf : CS yX8_mostOf := wI_13 _ (List.mem_of_getElem? (i := 10) rfl)
theorem cd_X7_rule : CD yX7_rule cX7_rule 4 (some .int) 2 := ⟨wI_13 _ (List.mem_of_getElem? (i := 15) rfl), wI_1 _ (List.mem_of_getElem? (i := 2) rfl), by decide +kernel, by decide, by decide +kernel⟩
theorem iv_X7_rule : CV yX7_rule := ⟨wI_13 _ (List.mem_of_getElem? (i := 13) rfl), wI_13 _ (List.mem_of_getElem? (i := 14) rfl)⟩
theorem cd_X8_rule : CD yX8_rule cX8_rule 4 (some .int) 2 := ⟨wI_13 _ (List.mem_of_getElem? (i := 22) rfl), wI_1 _ (List.mem_of_getElem? (i := 5) rfl), by decide +kernel, by decide, by decide +kernel⟩
theorem iv_X8_rule : CV yX8_rule := ⟨wI_13 _ (List.mem_of_getElem? (i := 20) rfl), wI_13 _ (List.mem_of_getElem? (i := 21) rfl)⟩
theorem cd_X7_yard : CD yX7_yard cX7_yard 3 (some .int) 2 := ⟨wI_14 _ (List.mem_of_getElem? (i := 6) rfl), wI_1 _ (List.mem_of_getElem? (i := 2) rfl), by decide +kernel, by decide, by decide +kernel⟩
theorem iv_X7_yard : CV yX7_yard := ⟨wI_14 _ (List.mem_of_getElem? (i := 4) rfl), wI_14 _ (List.mem_of_getElem? (i := 5) rfl)⟩
theorem cd_X8_yard : CD yX8_yard cX8_yard 3 (some .int) 2 := ⟨wI_14 _ (List.mem_of_getElem? (i := 12) rfl), wI_1 _ (List.mem_of_getElem? (i := 5) rfl), by decide +kernel, by decide, by decide +kernel⟩
theorem iv_X8_yard : CV yX8_yard := ⟨wI_14 _ (List.mem_of_getElem? (i := 10) rfl), wI_14 _ (List.mem_of_getElem? (i := 11) rfl)⟩
theorem cd_X8_isYard : CD yX8_isYard cX8_isYard 1 (some .boolean) 1 := ⟨wI_14 _ (List.mem_of_getElem? (i := 15) rfl), wI_1 _ (List.mem_of_getElem? (i := 5) rfl), by decide +kernel, by decide, by decide +kernel⟩
theorem st_X8_isYard : CS yX8_isYard := wI_14 _ (List.mem_of_getElem? (i := 14) rfl)
theorem cd_X7_sweep : CD yX7_sweep cX7_sweep 2 (some .int) 1 := ⟨wI_14 _ (List.mem_of_getElem? (i := 20) rfl), wI_1 _ (List.mem_of_getElem? (i := 2) rfl), by decide +kernel, by decide, by decide +kernel⟩
theorem iv_X7_sweep : CV yX7_sweep := ⟨wI_14 _ (List.mem_of_getElem? (i := 18) rfl), wI_14 _ (List.mem_of_getElem? (i := 19) rfl)⟩
theorem cd_X6_takeAll : CD yX6_takeAll cX6_takeAll 3 (some .int) 1 := ⟨wI_15 _ (List.mem_of_getElem? (i := 0) rfl), wI_2 _ (List.mem_of_getElem? (i := 3) rfl), by decide +kernel, by decide, by decide +kernel⟩
theorem iv_X6_takeAll : CV yX6_takeAll := ⟨wI_14 _ (List.mem_of_getElem? (i := 22) rfl), wI_14 _ (List.mem_of_getElem? (i := 23) rfl)⟩
theorem cd_X8_sweep : CD yX8_sweep cX8_sweep 2 (some .int) 1 := ⟨wI_15 _ (List.mem_of_getElem? (i := 4) rfl), wI_1 _ (List.mem_of_getElem? (i := 5) rfl), by decide +kernel, by decide, by decide +kernel⟩
theorem iv_X8_sweep : CV yX8_sweep := ⟨wI_15 _ (List.mem_of_getElem? (i := 2) rfl), wI_15 _ (List.mem_of_getElem? (i := 3) rfl)⟩
theorem cd_X7_rain : CD yX7_rain cX7_rain 1 (some .int) 0 := ⟨wI_15 _ (List.mem_of_getElem? (i := 8) rfl), wI_1 _ (List.mem_of_getElem? (i := 2) rfl), by decide +kernel, by decide, by decide +kernel⟩
theorem iv_X7_rain : CV yX7_rain := ⟨wI_15 _ (List.mem_of_getElem? (i := 6) rfl), wI_15 _ (List.mem_of_getElem? (i := 7) rfl)⟩
theorem cd_X6_sprout : CD yX6_sprout cX6_sprout 4 (some .int) 0 := ⟨wI_15 _ (List.mem_of_getElem? (i := 12) rfl), wI_2 _ (List.mem_of_getElem? (i := 3) rfl), by decide +kernel, by decide, by decide +kernel⟩
theorem iv_X6_sprout : CV yX6_sprout := ⟨wI_15 _ (List.mem_of_getElem? (i := 10) rfl), wI_15 _ (List.mem_of_getElem? (i := 11) rfl)⟩
theorem cd_X8_rain : CD yX8_rain cX8_rain 4 (some .int) 0 := ⟨wI_15 _ (List.mem_of_getElem? (i := 16) rfl), wI_1 _ (List.mem_of_getElem? (i := 5) rfl), by decide +kernel, by decide, by decide +kernel⟩
theorem iv_X8_rain : CV yX8_rain := ⟨wI_15 _ (List.mem_of_getElem? (i := 14) rfl), wI_15 _ (List.mem_of_getElem? (i := 15) rfl)⟩
theorem cd_X7_deal : CD yX7_deal cX7_deal 4 (some .int) 1 := ⟨wI_15 _ (List.mem_of_getElem? (i := 20) rfl), wI_1 _ (List.mem_of_getElem? (i := 2) rfl), by decide +kernel, by decide, by decide +kernel⟩
theorem iv_X7_deal : CV yX7_deal := ⟨wI_15 _ (List.mem_of_getElem? (i := 18) rfl), wI_15 _ (List.mem_of_getElem? (i := 19) rfl)⟩
theorem cd_X6_drawMule : CD yX6_drawMule cX6_drawMule 5 none 0 := ⟨wI_16 _ (List.mem_of_getElem? (i := 0) rfl), wI_2 _ (List.mem_of_getElem? (i := 3) rfl), by decide +kernel, by decide, by decide +kernel⟩
theorem iv_X6_drawMule : CV yX6_drawMule := ⟨wI_15 _ (List.mem_of_getElem? (i := 22) rfl), wI_15 _ (List.mem_of_getElem? (i := 23) rfl)⟩
theorem cd_X6_draw : CD yX6_draw cX6_draw 1 (some .int) 0 := ⟨wI_16 _ (List.mem_of_getElem? (i := 4) rfl), wI_2 _ (List.mem_of_getElem? (i := 3) rfl), by decide +kernel, by decide, by decide +kernel⟩
theorem iv_X6_draw : CV yX6_draw := ⟨wI_16 _ (List.mem_of_getElem? (i := 2) rfl), wI_16 _ (List.mem_of_getElem? (i := 3) rfl)⟩
theorem cd_X8_deal : CD yX8_deal cX8_deal 6 (some .int) 1 := ⟨wI_16 _ (List.mem_of_getElem? (i := 10) rfl), wI_1 _ (List.mem_of_getElem? (i := 5) rfl), by decide +kernel, by decide, by decide +kernel⟩
theorem iv_X8_deal : CV yX8_deal := ⟨wI_16 _ (List.mem_of_getElem? (i := 8) rfl), wI_16 _ (List.mem_of_getElem? (i := 9) rfl)⟩
theorem cd_X8_drawn : CD yX8_drawn cX8_drawn 1 (some .int) 0 := ⟨wI_16 _ (List.mem_of_getElem? (i := 15) rfl), wI_1 _ (List.mem_of_getElem? (i := 5) rfl), by decide +kernel, by decide, by decide +kernel⟩
theorem iv_X8_drawn : CV yX8_drawn := ⟨wI_16 _ (List.mem_of_getElem? (i := 13) rfl), wI_16 _ (List.mem_of_getElem? (i := 14) rfl)⟩
theorem cd_X7_seed : CD yX7_seed cX7_seed 3 (some .int) 1 := ⟨wI_16 _ (List.mem_of_getElem? (i := 20) rfl), wI_1 _ (List.mem_of_getElem? (i := 2) rfl), by decide +kernel, by decide, by decide +kernel⟩
theorem iv_X7_seed : CV yX7_seed := ⟨wI_16 _ (List.mem_of_getElem? (i := 18) rfl), wI_16 _ (List.mem_of_getElem? (i := 19) rfl)⟩
theorem cd_X8_seed : CD yX8_seed cX8_seed 2 (some .int) 1 := ⟨wI_17 _ (List.mem_of_getElem? (i := 1) rfl), wI_1 _ (List.mem_of_getElem? (i := 5) rfl), by decide +kernel, by decide, by decide +kernel⟩
theorem iv_X8_seed : CV yX8_seed := ⟨wI_16 _ (List.mem_of_getElem? (i := 23) rfl), wI_17 _ (List.mem_of_getElem? (i := 0) rfl)⟩
theorem cd_X7_minutes : CD yX7_minutes cX7_minutes 3 (some .int) 1 := ⟨wI_17 _ (List.mem_of_getElem? (i := 5) rfl), wI_1 _ (List.mem_of_getElem? (i := 2) rfl), by decide +kernel, by decide, by decide +kernel⟩
theorem iv_X7_minutes : CV yX7_minutes := ⟨wI_17 _ (List.mem_of_getElem? (i := 3) rfl), wI_17 _ (List.mem_of_getElem? (i := 4) rfl)⟩
theorem cd_X6_roomFor : CD yX6_roomFor cX6_roomFor 2 (some .int) 1 := ⟨wI_17 _ (List.mem_of_getElem? (i := 10) rfl), wI_2 _ (List.mem_of_getElem? (i := 3) rfl), by decide +kernel, by decide, by decide +kernel⟩
theorem iv_X6_roomFor : CV yX6_roomFor := ⟨wI_17 _ (List.mem_of_getElem? (i := 8) rfl), wI_17 _ (List.mem_of_getElem? (i := 9) rfl)⟩
theorem cd_X6_pass : CD yX6_pass cX6_pass 4 none 1 := ⟨wI_17 _ (List.mem_of_getElem? (i := 16) rfl), wI_2 _ (List.mem_of_getElem? (i := 3) rfl), by decide +kernel, by decide, by decide +kernel⟩
theorem iv_X6_pass : CV yX6_pass := ⟨wI_17 _ (List.mem_of_getElem? (i := 14) rfl), wI_17 _ (List.mem_of_getElem? (i := 15) rfl)⟩
theorem cd_X6_goOn : CD yX6_goOn cX6_goOn 7 none 1 := ⟨wI_17 _ (List.mem_of_getElem? (i := 20) rfl), wI_2 _ (List.mem_of_getElem? (i := 3) rfl), by decide +kernel, by decide, by decide +kernel⟩
theorem iv_X6_goOn : CV yX6_goOn := ⟨wI_17 _ (List.mem_of_getElem? (i := 18) rfl), wI_17 _ (List.mem_of_getElem? (i := 19) rfl)⟩
theorem cd_X6_widenHoles : CD yX6_widenHoles cX6_widenHoles 2 none 0 := ⟨wI_18 _ (List.mem_of_getElem? (i := 3) rfl), wI_2 _ (List.mem_of_getElem? (i := 3) rfl), by decide +kernel, by decide, by decide +kernel⟩
theorem iv_X6_widenHoles : CV yX6_widenHoles := ⟨wI_18 _ (List.mem_of_getElem? (i := 1) rfl), wI_18 _ (List.mem_of_getElem? (i := 2) rfl)⟩
theorem cd_X6_birdsEat : CD yX6_birdsEat cX6_birdsEat 3 none 0 := ⟨wI_18 _ (List.mem_of_getElem? (i := 7) rfl), wI_2 _ (List.mem_of_getElem? (i := 3) rfl), by decide +kernel, by decide, by decide +kernel⟩
theorem iv_X6_birdsEat : CV yX6_birdsEat := ⟨wI_18 _ (List.mem_of_getElem? (i := 5) rfl), wI_18 _ (List.mem_of_getElem? (i := 6) rfl)⟩
theorem cd_X6_gustBlows : CD yX6_gustBlows cX6_gustBlows 4 none 0 := ⟨wI_18 _ (List.mem_of_getElem? (i := 12) rfl), wI_2 _ (List.mem_of_getElem? (i := 3) rfl), by decide +kernel, by decide, by decide +kernel⟩
theorem iv_X6_gustBlows : CV yX6_gustBlows := ⟨wI_18 _ (List.mem_of_getElem? (i := 10) rfl), wI_18 _ (List.mem_of_getElem? (i := 11) rfl)⟩
theorem cd_X8_minutes : CD yX8_minutes cX8_minutes 4 (some .int) 1 := ⟨wI_18 _ (List.mem_of_getElem? (i := 17) rfl), wI_1 _ (List.mem_of_getElem? (i := 5) rfl), by decide +kernel, by decide, by decide +kernel⟩
theorem iv_X8_minutes : CV yX8_minutes := ⟨wI_18 _ (List.mem_of_getElem? (i := 15) rfl), wI_18 _ (List.mem_of_getElem? (i := 16) rfl)⟩
theorem cd_X8_goesOn : CD yX8_goesOn cX8_goesOn 3 none 0 := ⟨wI_18 _ (List.mem_of_getElem? (i := 21) rfl), wI_1 _ (List.mem_of_getElem? (i := 5) rfl), by decide +kernel, by decide, by decide +kernel⟩
theorem iv_X8_goesOn : CV yX8_goesOn := ⟨wI_18 _ (List.mem_of_getElem? (i := 19) rfl), wI_18 _ (List.mem_of_getElem? (i := 20) rfl)⟩
theorem cd_X8_walks : CD yX8_walks cX8_walks 8 none 1 := ⟨wI_19 _ (List.mem_of_getElem? (i := 1) rfl), wI_1 _ (List.mem_of_getElem? (i := 5) rfl), by decide +kernel, by decide, by decide +kernel⟩
theorem iv_X8_walks : CV yX8_walks := ⟨wI_18 _ (List.mem_of_getElem? (i := 23) rfl), wI_19 _ (List.mem_of_getElem? (i := 0) rfl)⟩
theorem cd_X8_gusts : CD yX8_gusts cX8_gusts 4 none 0 := ⟨wI_19 _ (List.mem_of_getElem? (i := 5) rfl), wI_1 _ (List.mem_of_getElem? (i := 5) rfl), by decide +kernel, by decide, by decide +kernel⟩
theorem iv_X8_gusts : CV yX8_gusts := ⟨wI_19 _ (List.mem_of_getElem? (i := 3) rfl), wI_19 _ (List.mem_of_getElem? (i := 4) rfl)⟩
theorem cd_X7_way : CD yX7_way cX7_way 2 (some .int) 1 := ⟨wI_19 _ (List.mem_of_getElem? (i := 9) rfl), wI_1 _ (List.mem_of_getElem? (i := 2) rfl), by decide +kernel, by decide, by decide +kernel⟩
theorem iv_X7_way : CV yX7_way := ⟨wI_19 _ (List.mem_of_getElem? (i := 7) rfl), wI_19 _ (List.mem_of_getElem? (i := 8) rfl)⟩
theorem cd_X7_sumOf : CD yX7_sumOf cX7_sumOf 6 (some .int) 1 := ⟨wI_19 _ (List.mem_of_getElem? (i := 14) rfl), wI_1 _ (List.mem_of_getElem? (i := 2) rfl), by decide +kernel, by decide, by decide +kernel⟩
theorem st_X7_sumOf : CS yX7_sumOf := wI_19 _ (List.mem_of_getElem? (i := 13) rfl)
theorem cd_X6_grainOfAll : CD yX6_grainOfAll cX6_grainOfAll 3 (some .int) 0 := ⟨wI_19 _ (List.mem_of_getElem? (i := 18) rfl), wI_2 _ (List.mem_of_getElem? (i := 3) rfl), by decide +kernel, by decide, by decide +kernel⟩
theorem iv_X6_grainOfAll : CV yX6_grainOfAll := ⟨wI_19 _ (List.mem_of_getElem? (i := 16) rfl), wI_19 _ (List.mem_of_getElem? (i := 17) rfl)⟩
theorem cd_X6_trail : CD yX6_trail cX6_trail 4 (some .int) 0 := ⟨wI_19 _ (List.mem_of_getElem? (i := 22) rfl), wI_2 _ (List.mem_of_getElem? (i := 3) rfl), by decide +kernel, by decide, by decide +kernel⟩
theorem iv_X6_trail : CV yX6_trail := ⟨wI_19 _ (List.mem_of_getElem? (i := 20) rfl), wI_19 _ (List.mem_of_getElem? (i := 21) rfl)⟩
theorem cd_X8_way : CD yX8_way cX8_way 2 (some .int) 1 := ⟨wI_20 _ (List.mem_of_getElem? (i := 3) rfl), wI_1 _ (List.mem_of_getElem? (i := 5) rfl), by decide +kernel, by decide, by decide +kernel⟩
theorem iv_X8_way : CV yX8_way := ⟨wI_20 _ (List.mem_of_getElem? (i := 1) rfl), wI_20 _ (List.mem_of_getElem? (i := 2) rfl)⟩
theorem cd_X8_allOf : CD yX8_allOf cX8_allOf 4 (some .int) 1 := ⟨wI_20 _ (List.mem_of_getElem? (i := 7) rfl), wI_1 _ (List.mem_of_getElem? (i := 5) rfl), by decide +kernel, by decide, by decide +kernel⟩
theorem iv_X8_allOf : CV yX8_allOf := ⟨wI_20 _ (List.mem_of_getElem? (i := 5) rfl), wI_20 _ (List.mem_of_getElem? (i := 6) rfl)⟩
theorem cd_X8_inSacks : CD yX8_inSacks cX8_inSacks 3 (some .int) 0 := ⟨wI_20 _ (List.mem_of_getElem? (i := 11) rfl), wI_1 _ (List.mem_of_getElem? (i := 5) rfl), by decide +kernel, by decide, by decide +kernel⟩
theorem iv_X8_inSacks : CV yX8_inSacks := ⟨wI_20 _ (List.mem_of_getElem? (i := 9) rfl), wI_20 _ (List.mem_of_getElem? (i := 10) rfl)⟩
theorem cd_X8_trail : CD yX8_trail cX8_trail 4 (some .int) 0 := ⟨wI_20 _ (List.mem_of_getElem? (i := 15) rfl), wI_1 _ (List.mem_of_getElem? (i := 5) rfl), by decide +kernel, by decide, by decide +kernel⟩
theorem iv_X8_trail : CV yX8_trail := ⟨wI_20 _ (List.mem_of_getElem? (i := 13) rfl), wI_20 _ (List.mem_of_getElem? (i := 14) rfl)⟩
theorem cd_X7_behind : CD yX7_behind cX7_behind 3 (some .int) 2 := ⟨wI_20 _ (List.mem_of_getElem? (i := 19) rfl), wI_1 _ (List.mem_of_getElem? (i := 2) rfl), by decide +kernel, by decide, by decide +kernel⟩
theorem iv_X7_behind : CV yX7_behind := ⟨wI_20 _ (List.mem_of_getElem? (i := 17) rfl), wI_20 _ (List.mem_of_getElem? (i := 18) rfl)⟩
theorem cd_X6_become : CD yX6_become cX6_become 3 none 1 := ⟨wI_20 _ (List.mem_of_getElem? (i := 23) rfl), wI_2 _ (List.mem_of_getElem? (i := 3) rfl), by decide +kernel, by decide, by decide +kernel⟩
theorem iv_X6_become : CV yX6_become := ⟨wI_20 _ (List.mem_of_getElem? (i := 21) rfl), wI_20 _ (List.mem_of_getElem? (i := 22) rfl)⟩
theorem cd_X0_become : CD yX0_become cX0_become 2 none 1 := ⟨wI_21 _ (List.mem_of_getElem? (i := 8) rfl), wI_3 _ (List.mem_of_getElem? (i := 16) rfl), by decide +kernel, by decide, by decide +kernel⟩
theorem iv_X0_become : CV yX0_become := ⟨wI_21 _ (List.mem_of_getElem? (i := 6) rfl), wI_21 _ (List.mem_of_getElem? (i := 7) rfl)⟩
theorem cd_X8_behind : CD yX8_behind cX8_behind 4 (some .int) 2 := ⟨wI_21 _ (List.mem_of_getElem? (i := 15) rfl), wI_1 _ (List.mem_of_getElem? (i := 5) rfl), by decide +kernel, by decide, by decide +kernel⟩
theorem iv_X8_behind : CV yX8_behind := ⟨wI_21 _ (List.mem_of_getElem? (i := 13) rfl), wI_21 _ (List.mem_of_getElem? (i := 14) rfl)⟩
theorem cd_X8_laysBy : CD yX8_laysBy cX8_laysBy 2 none 0 := ⟨wI_21 _ (List.mem_of_getElem? (i := 19) rfl), wI_1 _ (List.mem_of_getElem? (i := 5) rfl), by decide +kernel, by decide, by decide +kernel⟩
theorem iv_X8_laysBy : CV yX8_laysBy := ⟨wI_21 _ (List.mem_of_getElem? (i := 17) rfl), wI_21 _ (List.mem_of_getElem? (i := 18) rfl)⟩
theorem cd_X8_goesOnMany : CD yX8_goesOnMany cX8_goesOnMany 3 none 1 := ⟨wI_21 _ (List.mem_of_getElem? (i := 23) rfl), wI_1 _ (List.mem_of_getElem? (i := 5) rfl), by decide +kernel, by decide, by decide +kernel⟩
theorem iv_X8_goesOnMany : CV yX8_goesOnMany := ⟨wI_21 _ (List.mem_of_getElem? (i := 21) rfl), wI_21 _ (List.mem_of_getElem? (i := 22) rfl)⟩
theorem cd_X8_laysBack : CD yX8_laysBack cX8_laysBack 2 none 0 := ⟨wI_22 _ (List.mem_of_getElem? (i := 3) rfl), wI_1 _ (List.mem_of_getElem? (i := 5) rfl), by decide +kernel, by decide, by decide +kernel⟩
theorem iv_X8_laysBack : CV yX8_laysBack := ⟨wI_22 _ (List.mem_of_getElem? (i := 1) rfl), wI_22 _ (List.mem_of_getElem? (i := 2) rfl)⟩
theorem cd_X7_empty : CD yX7_empty cX7_empty 2 (some .int) 0 := ⟨wI_22 _ (List.mem_of_getElem? (i := 7) rfl), wI_1 _ (List.mem_of_getElem? (i := 2) rfl), by decide +kernel, by decide, by decide +kernel⟩
theorem iv_X7_empty : CV yX7_empty := ⟨wI_22 _ (List.mem_of_getElem? (i := 5) rfl), wI_22 _ (List.mem_of_getElem? (i := 6) rfl)⟩
theorem cd_X6_isThrough : CD yX6_isThrough cX6_isThrough 2 (some .boolean) 0 := ⟨wI_22 _ (List.mem_of_getElem? (i := 12) rfl), wI_2 _ (List.mem_of_getElem? (i := 3) rfl), by decide +kernel, by decide, by decide +kernel⟩
theorem iv_X6_isThrough : CV yX6_isThrough := ⟨wI_22 _ (List.mem_of_getElem? (i := 10) rfl), wI_22 _ (List.mem_of_getElem? (i := 11) rfl)⟩
theorem cd_X8_empty : CD yX8_empty cX8_empty 3 (some .int) 0 := ⟨wI_22 _ (List.mem_of_getElem? (i := 16) rfl), wI_1 _ (List.mem_of_getElem? (i := 5) rfl), by decide +kernel, by decide, by decide +kernel⟩
theorem iv_X8_empty : CV yX8_empty := ⟨wI_22 _ (List.mem_of_getElem? (i := 14) rfl), wI_22 _ (List.mem_of_getElem? (i := 15) rfl)⟩
theorem cd_X8_isEmpty : CD yX8_isEmpty cX8_isEmpty 2 (some .boolean) 0 := ⟨wI_22 _ (List.mem_of_getElem? (i := 20) rfl), wI_1 _ (List.mem_of_getElem? (i := 5) rfl), by decide +kernel, by decide, by decide +kernel⟩
theorem iv_X8_isEmpty : CV yX8_isEmpty := ⟨wI_22 _ (List.mem_of_getElem? (i := 18) rfl), wI_22 _ (List.mem_of_getElem? (i := 19) rfl)⟩
theorem cd_X8_orNone : CD yX8_orNone cX8_orNone 1 (some .int) 1 := ⟨wI_22 _ (List.mem_of_getElem? (i := 23) rfl), wI_1 _ (List.mem_of_getElem? (i := 5) rfl), by decide +kernel, by decide, by decide +kernel⟩
theorem st_X8_orNone : CS yX8_orNone := wI_22 _ (List.mem_of_getElem? (i := 22) rfl)
theorem cd_X7_thickest : CD yX7_thickest cX7_thickest 4 (some .int) 2 := ⟨wI_23 _ (List.mem_of_getElem? (i := 4) rfl), wI_1 _ (List.mem_of_getElem? (i := 2) rfl), by decide +kernel, by decide, by decide +kernel⟩
theorem iv_X7_thickest : CV yX7_thickest := ⟨wI_23 _ (List.mem_of_getElem? (i := 2) rfl), wI_23 _ (List.mem_of_getElem? (i := 3) rfl)⟩
theorem cd_X6_fullestYard : CD yX6_fullestYard cX6_fullestYard 3 (some .int) 0 := ⟨wI_23 _ (List.mem_of_getElem? (i := 8) rfl), wI_2 _ (List.mem_of_getElem? (i := 3) rfl), by decide +kernel, by decide, by decide +kernel⟩
theorem iv_X6_fullestYard : CV yX6_fullestYard := ⟨wI_23 _ (List.mem_of_getElem? (i := 6) rfl), wI_23 _ (List.mem_of_getElem? (i := 7) rfl)⟩
theorem cd_X8_thickest : CD yX8_thickest cX8_thickest 5 (some .int) 2 := ⟨wI_23 _ (List.mem_of_getElem? (i := 12) rfl), wI_1 _ (List.mem_of_getElem? (i := 5) rfl), by decide +kernel, by decide, by decide +kernel⟩
theorem iv_X8_thickest : CV yX8_thickest := ⟨wI_23 _ (List.mem_of_getElem? (i := 10) rfl), wI_23 _ (List.mem_of_getElem? (i := 11) rfl)⟩
theorem cd_X7_patch : CD yX7_patch cX7_patch 7 (some .int) 2 := ⟨wI_23 _ (List.mem_of_getElem? (i := 16) rfl), wI_1 _ (List.mem_of_getElem? (i := 2) rfl), by decide +kernel, by decide, by decide +kernel⟩
theorem iv_X7_patch : CV yX7_patch := ⟨wI_23 _ (List.mem_of_getElem? (i := 14) rfl), wI_23 _ (List.mem_of_getElem? (i := 15) rfl)⟩
theorem cd_X7_leftIfPatched : CD yX7_leftIfPatched cX7_leftIfPatched 3 (some .int) 2 := ⟨wI_23 _ (List.mem_of_getElem? (i := 20) rfl), wI_1 _ (List.mem_of_getElem? (i := 2) rfl), by decide +kernel, by decide, by decide +kernel⟩
theorem iv_X7_leftIfPatched : CV yX7_leftIfPatched := ⟨wI_23 _ (List.mem_of_getElem? (i := 18) rfl), wI_23 _ (List.mem_of_getElem? (i := 19) rfl)⟩
theorem cd_X8_patch : CD yX8_patch cX8_patch 7 (some .int) 2 := ⟨wI_24 _ (List.mem_of_getElem? (i := 0) rfl), wI_1 _ (List.mem_of_getElem? (i := 5) rfl), by decide +kernel, by decide, by decide +kernel⟩
theorem iv_X8_patch : CV yX8_patch := ⟨wI_23 _ (List.mem_of_getElem? (i := 22) rfl), wI_23 _ (List.mem_of_getElem? (i := 23) rfl)⟩
theorem cd_X7_pan : CD yX7_pan cX7_pan 5 (some .int) 2 := ⟨wI_24 _ (List.mem_of_getElem? (i := 5) rfl), wI_1 _ (List.mem_of_getElem? (i := 2) rfl), by decide +kernel, by decide, by decide +kernel⟩
theorem iv_X7_pan : CV yX7_pan := ⟨wI_24 _ (List.mem_of_getElem? (i := 3) rfl), wI_24 _ (List.mem_of_getElem? (i := 4) rfl)⟩
theorem cd_X8_pan : CD yX8_pan cX8_pan 5 (some .int) 2 := ⟨wI_24 _ (List.mem_of_getElem? (i := 9) rfl), wI_1 _ (List.mem_of_getElem? (i := 5) rfl), by decide +kernel, by decide, by decide +kernel⟩
theorem iv_X8_pan : CV yX8_pan := ⟨wI_24 _ (List.mem_of_getElem? (i := 7) rfl), wI_24 _ (List.mem_of_getElem? (i := 8) rfl)⟩
theorem cd_X7_whose : CD yX7_whose cX7_whose 9 (some .int) 3 := ⟨wI_24 _ (List.mem_of_getElem? (i := 13) rfl), wI_1 _ (List.mem_of_getElem? (i := 2) rfl), by decide +kernel, by decide, by decide +kernel⟩
theorem iv_X7_whose : CV yX7_whose := ⟨wI_24 _ (List.mem_of_getElem? (i := 11) rfl), wI_24 _ (List.mem_of_getElem? (i := 12) rfl)⟩
theorem cd_X7_isSheet : CD yX7_isSheet cX7_isSheet 1 (some .boolean) 1 := ⟨wI_24 _ (List.mem_of_getElem? (i := 17) rfl), wI_1 _ (List.mem_of_getElem? (i := 2) rfl), by decide +kernel, by decide, by decide +kernel⟩
theorem st_X7_isSheet : CS yX7_isSheet := wI_24 _ (List.mem_of_getElem? (i := 16) rfl)
theorem cd_X1_isMissing : CD yX1_isMissing cX1_isMissing 1 (some .boolean) 0 := ⟨wI_24 _ (List.mem_of_getElem? (i := 21) rfl), wI_2 _ (List.mem_of_getElem? (i := 10) rfl), by decide +kernel, by decide, by decide +kernel⟩
theorem iv_X1_isMissing : CV yX1_isMissing := ⟨wI_24 _ (List.mem_of_getElem? (i := 19) rfl), wI_24 _ (List.mem_of_getElem? (i := 20) rfl)⟩
theorem cd_X7_differenceIfAlone : CD yX7_differenceIfAlone cX7_differenceIfAlone 6 (some .int) 3 := ⟨wI_25 _ (List.mem_of_getElem? (i := 1) rfl), wI_1 _ (List.mem_of_getElem? (i := 2) rfl), by decide +kernel, by decide, by decide +kernel⟩
theorem iv_X7_differenceIfAlone : CV yX7_differenceIfAlone := ⟨wI_24 _ (List.mem_of_getElem? (i := 23) rfl), wI_25 _ (List.mem_of_getElem? (i := 0) rfl)⟩
theorem cd_X1_hasNumber : CD yX1_hasNumber cX1_hasNumber 2 (some .boolean) 1 := ⟨wI_25 _ (List.mem_of_getElem? (i := 10) rfl), wI_2 _ (List.mem_of_getElem? (i := 10) rfl), by decide +kernel, by decide, by decide +kernel⟩
theorem iv_X1_hasNumber : CV yX1_hasNumber := ⟨wI_25 _ (List.mem_of_getElem? (i := 8) rfl), wI_25 _ (List.mem_of_getElem? (i := 9) rfl)⟩
theorem cd_X1_has : CD yX1_has cX1_has 2 (some .boolean) 1 := ⟨wI_25 _ (List.mem_of_getElem? (i := 15) rfl), wI_2 _ (List.mem_of_getElem? (i := 10) rfl), by decide +kernel, by decide, by decide +kernel⟩
theorem iv_X1_has : CV yX1_has := ⟨wI_25 _ (List.mem_of_getElem? (i := 13) rfl), wI_25 _ (List.mem_of_getElem? (i := 14) rfl)⟩
theorem cd_X8_whose : CD yX8_whose cX8_whose 10 (some .int) 3 := ⟨wI_25 _ (List.mem_of_getElem? (i := 20) rfl), wI_1 _ (List.mem_of_getElem? (i := 5) rfl), by decide +kernel, by decide, by decide +kernel⟩
theorem iv_X8_whose : CV yX8_whose := ⟨wI_25 _ (List.mem_of_getElem? (i := 18) rfl), wI_25 _ (List.mem_of_getElem? (i := 19) rfl)⟩
theorem cd_X8_isSheet : CD yX8_isSheet cX8_isSheet 1 (some .boolean) 1 := ⟨wI_26 _ (List.mem_of_getElem? (i := 0) rfl), wI_1 _ (List.mem_of_getElem? (i := 5) rfl), by decide +kernel, by decide, by decide +kernel⟩
theorem st_X8_isSheet : CS yX8_isSheet := wI_25 _ (List.mem_of_getElem? (i := 23) rfl)
theorem cd_X8_off : CD yX8_off cX8_off 2 (some .int) 2 := ⟨wI_26 _ (List.mem_of_getElem? (i := 3) rfl), wI_1 _ (List.mem_of_getElem? (i := 5) rfl), by decide +kernel, by decide, by decide +kernel⟩
theorem st_X8_off : CS yX8_off := wI_26 _ (List.mem_of_getElem? (i := 2) rfl)
theorem cd_X7_fee : CD yX7_fee cX7_fee 1 (some .int) 0 := ⟨wI_26 _ (List.mem_of_getElem? (i := 7) rfl), wI_1 _ (List.mem_of_getElem? (i := 2) rfl), by decide +kernel, by decide, by decide +kernel⟩
theorem iv_X7_fee : CV yX7_fee := ⟨wI_26 _ (List.mem_of_getElem? (i := 5) rfl), wI_26 _ (List.mem_of_getElem? (i := 6) rfl)⟩
theorem cd_X8_fee : CD yX8_fee cX8_fee 2 (some .int) 0 := ⟨wI_26 _ (List.mem_of_getElem? (i := 12) rfl), wI_1 _ (List.mem_of_getElem? (i := 5) rfl), by decide +kernel, by decide, by decide +kernel⟩
theorem iv_X8_fee : CV yX8_fee := ⟨wI_26 _ (List.mem_of_getElem? (i := 10) rfl), wI_26 _ (List.mem_of_getElem? (i := 11) rfl)⟩
theorem cd_X7_fine : CD yX7_fine cX7_fine 3 (some .int) 1 := ⟨wI_26 _ (List.mem_of_getElem? (i := 16) rfl), wI_1 _ (List.mem_of_getElem? (i := 2) rfl), by decide +kernel, by decide, by decide +kernel⟩
theorem iv_X7_fine : CV yX7_fine := ⟨wI_26 _ (List.mem_of_getElem? (i := 14) rfl), wI_26 _ (List.mem_of_getElem? (i := 15) rfl)⟩
theorem cd_X8_fine : CD yX8_fine cX8_fine 3 (some .int) 1 := ⟨wI_26 _ (List.mem_of_getElem? (i := 20) rfl), wI_1 _ (List.mem_of_getElem? (i := 5) rfl), by decide +kernel, by decide, by decide +kernel⟩
theorem iv_X8_fine : CV yX8_fine := ⟨wI_26 _ (List.mem_of_getElem? (i := 18) rfl), wI_26 _ (List.mem_of_getElem? (i := 19) rfl)⟩
theorem cd_X7_feed : CD yX7_feed cX7_feed 4 (some .int) 3 := ⟨wI_27 _ (List.mem_of_getElem? (i := 0) rfl), wI_1 _ (List.mem_of_getElem? (i := 2) rfl), by decide +kernel, by decide, by decide +kernel⟩
theorem iv_X7_feed : CV yX7_feed := ⟨wI_26 _ (List.mem_of_getElem? (i := 22) rfl), wI_26 _ (List.mem_of_getElem? (i := 23) rfl)⟩
theorem cd_X3_addBytesOf : CD yX3_addBytesOf cX3_addBytesOf 3 none 1 := ⟨wI_27 _ (List.mem_of_getElem? (i := 5) rfl), wI_1 _ (List.mem_of_getElem? (i := 19) rfl), by decide +kernel, by decide, by decide +kernel⟩
theorem iv_X3_addBytesOf : CV yX3_addBytesOf := ⟨wI_27 _ (List.mem_of_getElem? (i := 3) rfl), wI_27 _ (List.mem_of_getElem? (i := 4) rfl)⟩
theorem cd_X8_feed : CD yX8_feed cX8_feed 6 (some .int) 3 := ⟨wI_27 _ (List.mem_of_getElem? (i := 10) rfl), wI_1 _ (List.mem_of_getElem? (i := 5) rfl), by decide +kernel, by decide, by decide +kernel⟩
theorem iv_X8_feed : CV yX8_feed := ⟨wI_27 _ (List.mem_of_getElem? (i := 8) rfl), wI_27 _ (List.mem_of_getElem? (i := 9) rfl)⟩
theorem cd_X7_trim : CD yX7_trim cX7_trim 2 (some .int) 1 := ⟨wI_27 _ (List.mem_of_getElem? (i := 15) rfl), wI_1 _ (List.mem_of_getElem? (i := 2) rfl), by decide +kernel, by decide, by decide +kernel⟩
theorem iv_X7_trim : CV yX7_trim := ⟨wI_27 _ (List.mem_of_getElem? (i := 13) rfl), wI_27 _ (List.mem_of_getElem? (i := 14) rfl)⟩
theorem cd_X8_trim : CD yX8_trim cX8_trim 2 (some .int) 1 := ⟨wI_27 _ (List.mem_of_getElem? (i := 19) rfl), wI_1 _ (List.mem_of_getElem? (i := 5) rfl), by decide +kernel, by decide, by decide +kernel⟩
theorem iv_X8_trim : CV yX8_trim := ⟨wI_27 _ (List.mem_of_getElem? (i := 17) rfl), wI_27 _ (List.mem_of_getElem? (i := 18) rfl)⟩
theorem cd_X7_text : CD yX7_text cX7_text 3 (some .int) 0 := ⟨wI_27 _ (List.mem_of_getElem? (i := 23) rfl), wI_1 _ (List.mem_of_getElem? (i := 2) rfl), by decide +kernel, by decide, by decide +kernel⟩
theorem iv_X7_text : CV yX7_text := ⟨wI_27 _ (List.mem_of_getElem? (i := 21) rfl), wI_27 _ (List.mem_of_getElem? (i := 22) rfl)⟩
theorem cd_X5_readTape : CD yX5_readTape cX5_readTape 1 (some .boolean) 0 := ⟨wI_28 _ (List.mem_of_getElem? (i := 8) rfl), wI_1 _ (List.mem_of_getElem? (i := 23) rfl), by decide +kernel, by decide, by decide +kernel⟩
theorem iv_X5_readTape : CV yX5_readTape := ⟨wI_28 _ (List.mem_of_getElem? (i := 6) rfl), wI_28 _ (List.mem_of_getElem? (i := 7) rfl)⟩
theorem cd_X5_stepOn : CD yX5_stepOn cX5_stepOn 4 none 0 := ⟨wI_28 _ (List.mem_of_getElem? (i := 14) rfl), wI_1 _ (List.mem_of_getElem? (i := 23) rfl), by decide +kernel, by decide, by decide +kernel⟩
theorem iv_X5_stepOn : CV yX5_stepOn := ⟨wI_28 _ (List.mem_of_getElem? (i := 12) rfl), wI_28 _ (List.mem_of_getElem? (i := 13) rfl)⟩
theorem cd_X3_byteAt : CD yX3_byteAt cX3_byteAt 2 (some .int) 1 := ⟨wI_28 _ (List.mem_of_getElem? (i := 20) rfl), wI_1 _ (List.mem_of_getElem? (i := 19) rfl), by decide +kernel, by decide, by decide +kernel⟩
theorem iv_X3_byteAt : CV yX3_byteAt := ⟨wI_28 _ (List.mem_of_getElem? (i := 18) rfl), wI_28 _ (List.mem_of_getElem? (i := 19) rfl)⟩
theorem cd_X5_sortOf : CD yX5_sortOf cX5_sortOf 1 (some .int) 1 := ⟨wI_28 _ (List.mem_of_getElem? (i := 23) rfl), wI_1 _ (List.mem_of_getElem? (i := 23) rfl), by decide +kernel, by decide, by decide +kernel⟩
theorem st_X5_sortOf : CS yX5_sortOf := wI_28 _ (List.mem_of_getElem? (i := 22) rfl)
theorem cd_X5_readKey : CD yX5_readKey cX5_readKey 2 (some .boolean) 0 := ⟨wI_29 _ (List.mem_of_getElem? (i := 3) rfl), wI_1 _ (List.mem_of_getElem? (i := 23) rfl), by decide +kernel, by decide, by decide +kernel⟩
theorem iv_X5_readKey : CV yX5_readKey := ⟨wI_29 _ (List.mem_of_getElem? (i := 1) rfl), wI_29 _ (List.mem_of_getElem? (i := 2) rfl)⟩
theorem cd_X5_wordOf : CD yX5_wordOf cX5_wordOf 1 (some (.object "java/lang/String")) 1 := ⟨wI_29 _ (List.mem_of_getElem? (i := 6) rfl), wI_1 _ (List.mem_of_getElem? (i := 23) rfl), by decide +kernel, by decide, by decide +kernel⟩
theorem st_X5_wordOf : CS yX5_wordOf := wI_29 _ (List.mem_of_getElem? (i := 5) rfl)
theorem cd_X5_spells : CD yX5_spells cX5_spells 3 (some .boolean) 1 := ⟨wI_29 _ (List.mem_of_getElem? (i := 10) rfl), wI_1 _ (List.mem_of_getElem? (i := 23) rfl), by decide +kernel, by decide, by decide +kernel⟩
theorem iv_X5_spells : CV yX5_spells := ⟨wI_29 _ (List.mem_of_getElem? (i := 8) rfl), wI_29 _ (List.mem_of_getElem? (i := 9) rfl)⟩
theorem cd_J0_length_8abf5 : CD yJ0_length_8abf5 cJ0_length_8abf5 1 (some .int) 0 := ⟨wI_29 _ (List.mem_of_getElem? (i := 15) rfl), wI_29 _ (List.mem_of_getElem? (i := 14) rfl), by decide +kernel, by decide, by decide +kernel⟩
theorem iv_J0_length_8abf5 : CV yJ0_length_8abf5 := ⟨wI_29 _ (List.mem_of_getElem? (i := 12) rfl), wI_29 _ (List.mem_of_getElem? (i := 13) rfl)⟩
theorem cd_J0_coder_7d493 : CD yJ0_coder_7d493 cJ0_coder_7d493 1 (some .byte) 0 := ⟨wI_29 _ (List.mem_of_getElem? (i := 20) rfl), wI_29 _ (List.mem_of_getElem? (i := 14) rfl), by decide +kernel, by decide, by decide +kernel⟩
theorem iv_J0_coder_7d493 : CV yJ0_coder_7d493 := ⟨wI_29 _ (List.mem_of_getElem? (i := 18) rfl), wI_29 _ (List.mem_of_getElem? (i := 19) rfl)⟩
theorem cd_J0_charAt_5068e : CD yJ0_charAt_5068e cJ0_charAt_5068e 2 (some .char) 1 := ⟨wI_30 _ (List.mem_of_getElem? (i := 2) rfl), wI_29 _ (List.mem_of_getElem? (i := 14) rfl), by decide +kernel, by decide, by decide +kernel⟩
theorem iv_J0_charAt_5068e : CV yJ0_charAt_5068e := ⟨wI_30 _ (List.mem_of_getElem? (i := 0) rfl), wI_30 _ (List.mem_of_getElem? (i := 1) rfl)⟩
theorem cd_J0_isLatin1_aae02 : CD yJ0_isLatin1_aae02 cJ0_isLatin1_aae02 1 (some .boolean) 0 := ⟨wI_30 _ (List.mem_of_getElem? (i := 6) rfl), wI_29 _ (List.mem_of_getElem? (i := 14) rfl), by decide +kernel, by decide, by decide +kernel⟩
theorem iv_J0_isLatin1_aae02 : CV yJ0_isLatin1_aae02 := ⟨wI_30 _ (List.mem_of_getElem? (i := 4) rfl), wI_30 _ (List.mem_of_getElem? (i := 5) rfl)⟩
theorem cd_J1_charAt_3b067 : CD yJ1_charAt_3b067 cJ1_charAt_3b067 2 (some .char) 2 := ⟨wI_30 _ (List.mem_of_getElem? (i := 10) rfl), wI_30 _ (List.mem_of_getElem? (i := 9) rfl), by decide +kernel, by decide, by decide +kernel⟩
theorem st_J1_charAt_3b067 : CS yJ1_charAt_3b067 := wI_30 _ (List.mem_of_getElem? (i := 8) rfl)
theorem cd_J0_checkIndex_df160 : CD yJ0_checkIndex_df160 cJ0_checkIndex_df160 2 none 2 := ⟨wI_30 _ (List.mem_of_getElem? (i := 13) rfl), wI_29 _ (List.mem_of_getElem? (i := 14) rfl), by decide +kernel, by decide, by decide +kernel⟩
theorem st_J0_checkIndex_df160 : CS yJ0_checkIndex_df160 := wI_30 _ (List.mem_of_getElem? (i := 12) rfl)
theorem cd_J3_checkIndex_8e157 : CD yJ3_checkIndex_8e157 cJ3_checkIndex_8e157 3 (some .int) 3 := ⟨wI_30 _ (List.mem_of_getElem? (i := 18) rfl), wI_30 _ (List.mem_of_getElem? (i := 17) rfl), by decide +kernel, by decide, by decide +kernel⟩
theorem st_J3_checkIndex_8e157 : CS yJ3_checkIndex_8e157 := wI_30 _ (List.mem_of_getElem? (i := 16) rfl)
theorem cd_J2_charAt_3b067 : CD yJ2_charAt_3b067 cJ2_charAt_3b067 2 (some .char) 2 := ⟨wI_30 _ (List.mem_of_getElem? (i := 22) rfl), wI_30 _ (List.mem_of_getElem? (i := 21) rfl), by decide +kernel, by decide, by decide +kernel⟩
theorem st_J2_charAt_3b067 : CS yJ2_charAt_3b067 := wI_30 _ (List.mem_of_getElem? (i := 20) rfl)
theorem cd_J2_checkIndex_2214a : CD yJ2_checkIndex_2214a cJ2_checkIndex_2214a 2 none 2 := ⟨wI_31 _ (List.mem_of_getElem? (i := 1) rfl), wI_30 _ (List.mem_of_getElem? (i := 21) rfl), by decide +kernel, by decide, by decide +kernel⟩
theorem st_J2_checkIndex_2214a : CS yJ2_checkIndex_2214a := wI_31 _ (List.mem_of_getElem? (i := 0) rfl)
theorem cd_J2_length_9d52b : CD yJ2_length_9d52b cJ2_length_9d52b 1 (some .int) 1 := ⟨wI_31 _ (List.mem_of_getElem? (i := 4) rfl), wI_30 _ (List.mem_of_getElem? (i := 21) rfl), by decide +kernel, by decide, by decide +kernel⟩
theorem st_J2_length_9d52b : CS yJ2_length_9d52b := wI_31 _ (List.mem_of_getElem? (i := 3) rfl)
theorem cd_J2_getChar_3b067 : CD yJ2_getChar_3b067 cJ2_getChar_3b067 2 (some .char) 2 := ⟨wI_31 _ (List.mem_of_getElem? (i := 8) rfl), wI_30 _ (List.mem_of_getElem? (i := 21) rfl), by decide +kernel, by decide, by decide +kernel⟩
theorem st_J2_getChar_3b067 : CS yJ2_getChar_3b067 := wI_31 _ (List.mem_of_getElem? (i := 7) rfl)
theorem cd_X4_begin : CD yX4_begin cX4_begin 2 none 1 := ⟨wI_31 _ (List.mem_of_getElem? (i := 15) rfl), wI_1 _ (List.mem_of_getElem? (i := 16) rfl), by decide +kernel, by decide, by decide +kernel⟩
theorem iv_X4_begin : CV yX4_begin := ⟨wI_31 _ (List.mem_of_getElem? (i := 13) rfl), wI_31 _ (List.mem_of_getElem? (i := 14) rfl)⟩
theorem cd_X5_readLevel : CD yX5_readLevel cX5_readLevel 7 (some .boolean) 3 := ⟨wI_31 _ (List.mem_of_getElem? (i := 21) rfl), wI_1 _ (List.mem_of_getElem? (i := 23) rfl), by decide +kernel, by decide, by decide +kernel⟩
theorem iv_X5_readLevel : CV yX5_readLevel := ⟨wI_31 _ (List.mem_of_getElem? (i := 19) rfl), wI_31 _ (List.mem_of_getElem? (i := 20) rfl)⟩
theorem cd_X5_signsOf : CD yX5_signsOf cX5_signsOf 1 (some (.object "java/lang/String")) 1 := ⟨wI_32 _ (List.mem_of_getElem? (i := 3) rfl), wI_1 _ (List.mem_of_getElem? (i := 23) rfl), by decide +kernel, by decide, by decide +kernel⟩
theorem st_X5_signsOf : CS yX5_signsOf := wI_32 _ (List.mem_of_getElem? (i := 2) rfl)
theorem cd_X5_isOneOf : CD yX5_isOneOf cX5_isOneOf 2 (some .boolean) 1 := ⟨wI_32 _ (List.mem_of_getElem? (i := 7) rfl), wI_1 _ (List.mem_of_getElem? (i := 23) rfl), by decide +kernel, by decide, by decide +kernel⟩
theorem iv_X5_isOneOf : CV yX5_isOneOf := ⟨wI_32 _ (List.mem_of_getElem? (i := 5) rfl), wI_32 _ (List.mem_of_getElem? (i := 6) rfl)⟩
theorem cd_J0_indexOf_0f7a4 : CD yJ0_indexOf_0f7a4 cJ0_indexOf_0f7a4 2 (some .int) 1 := ⟨wI_32 _ (List.mem_of_getElem? (i := 11) rfl), wI_29 _ (List.mem_of_getElem? (i := 14) rfl), by decide +kernel, by decide, by decide +kernel⟩
theorem iv_J0_indexOf_0f7a4 : CV yJ0_indexOf_0f7a4 := ⟨wI_32 _ (List.mem_of_getElem? (i := 9) rfl), wI_32 _ (List.mem_of_getElem? (i := 10) rfl)⟩
theorem cd_J0_indexOf_7cf53 : CD yJ0_indexOf_7cf53 cJ0_indexOf_7cf53 3 (some .int) 2 := ⟨wI_32 _ (List.mem_of_getElem? (i := 15) rfl), wI_29 _ (List.mem_of_getElem? (i := 14) rfl), by decide +kernel, by decide, by decide +kernel⟩
theorem iv_J0_indexOf_7cf53 : CV yJ0_indexOf_7cf53 := ⟨wI_32 _ (List.mem_of_getElem? (i := 13) rfl), wI_32 _ (List.mem_of_getElem? (i := 14) rfl)⟩
theorem cd_J1_indexOf_4cfef : CD yJ1_indexOf_4cfef cJ1_indexOf_4cfef 4 (some .int) 4 := ⟨wI_32 _ (List.mem_of_getElem? (i := 19) rfl), wI_30 _ (List.mem_of_getElem? (i := 9) rfl), by decide +kernel, by decide, by decide +kernel⟩
theorem st_J1_indexOf_4cfef : CS yJ1_indexOf_4cfef := wI_32 _ (List.mem_of_getElem? (i := 18) rfl)
theorem cd_J1_canEncode_9a6ad : CD yJ1_canEncode_9a6ad cJ1_canEncode_9a6ad 1 (some .boolean) 1 := ⟨wI_33 _ (List.mem_of_getElem? (i := 0) rfl), wI_30 _ (List.mem_of_getElem? (i := 9) rfl), by decide +kernel, by decide, by decide +kernel⟩
theorem st_J1_canEncode_9a6ad : CS yJ1_canEncode_9a6ad := wI_32 _ (List.mem_of_getElem? (i := 23) rfl)
theorem cd_J1_indexOfChar_4cfef : CD yJ1_indexOfChar_4cfef cJ1_indexOfChar_4cfef 6 (some .int) 4 := ⟨wI_33 _ (List.mem_of_getElem? (i := 3) rfl), wI_30 _ (List.mem_of_getElem? (i := 9) rfl), by decide +kernel, by decide, by decide +kernel⟩
theorem st_J1_indexOfChar_4cfef : CS yJ1_indexOfChar_4cfef := wI_33 _ (List.mem_of_getElem? (i := 2) rfl)
theorem cd_J2_indexOf_4cfef : CD yJ2_indexOf_4cfef cJ2_indexOf_4cfef 4 (some .int) 4 := ⟨wI_33 _ (List.mem_of_getElem? (i := 6) rfl), wI_30 _ (List.mem_of_getElem? (i := 21) rfl), by decide +kernel, by decide, by decide +kernel⟩
theorem st_J2_indexOf_4cfef : CS yJ2_indexOf_4cfef := wI_33 _ (List.mem_of_getElem? (i := 5) rfl)
theorem cd_J2_indexOfChar_4cfef : CD yJ2_indexOfChar_4cfef cJ2_indexOfChar_4cfef 4 (some .int) 4 := ⟨wI_33 _ (List.mem_of_getElem? (i := 12) rfl), wI_30 _ (List.mem_of_getElem? (i := 21) rfl), by decide +kernel, by decide, by decide +kernel⟩
theorem st_J2_indexOfChar_4cfef : CS yJ2_indexOfChar_4cfef := wI_33 _ (List.mem_of_getElem? (i := 11) rfl)
theorem cd_J2_checkBoundsBeginEnd_d044e : CD yJ2_checkBoundsBeginEnd_d044e cJ2_checkBoundsBeginEnd_d044e 3 none 3 := ⟨wI_33 _ (List.mem_of_getElem? (i := 15) rfl), wI_30 _ (List.mem_of_getElem? (i := 21) rfl), by decide +kernel, by decide, by decide +kernel⟩
theorem st_J2_checkBoundsBeginEnd_d044e : CS yJ2_checkBoundsBeginEnd_d044e := wI_33 _ (List.mem_of_getElem? (i := 14) rfl)
theorem cd_J0_checkBoundsBeginEnd_23922 : CD yJ0_checkBoundsBeginEnd_23922 cJ0_checkBoundsBeginEnd_23922 3 none 3 := ⟨wI_33 _ (List.mem_of_getElem? (i := 18) rfl), wI_29 _ (List.mem_of_getElem? (i := 14) rfl), by decide +kernel, by decide, by decide +kernel⟩
theorem st_J0_checkBoundsBeginEnd_23922 : CS yJ0_checkBoundsBeginEnd_23922 := wI_33 _ (List.mem_of_getElem? (i := 17) rfl)
theorem cd_J3_checkFromToIndex_8c36e : CD yJ3_checkFromToIndex_8c36e cJ3_checkFromToIndex_8c36e 4 (some .int) 4 := ⟨wI_33 _ (List.mem_of_getElem? (i := 21) rfl), wI_30 _ (List.mem_of_getElem? (i := 17) rfl), by decide +kernel, by decide, by decide +kernel⟩
theorem st_J3_checkFromToIndex_8c36e : CS yJ3_checkFromToIndex_8c36e := wI_33 _ (List.mem_of_getElem? (i := 20) rfl)
theorem cd_J2_indexOfCharUnsafe_4cfef : CD yJ2_indexOfCharUnsafe_4cfef cJ2_indexOfCharUnsafe_4cfef 5 (some .int) 4 := ⟨wI_34 _ (List.mem_of_getElem? (i := 0) rfl), wI_30 _ (List.mem_of_getElem? (i := 21) rfl), by decide +kernel, by decide, by decide +kernel⟩
theorem st_J2_indexOfCharUnsafe_4cfef : CS yJ2_indexOfCharUnsafe_4cfef := wI_33 _ (List.mem_of_getElem? (i := 23) rfl)
theorem cd_J2_indexOfSupplementary_4cfef : CD yJ2_indexOfSupplementary_4cfef cJ2_indexOfSupplementary_4cfef 7 (some .int) 4 := ⟨wI_34 _ (List.mem_of_getElem? (i := 3) rfl), wI_30 _ (List.mem_of_getElem? (i := 21) rfl), by decide +kernel, by decide, by decide +kernel⟩
theorem st_J2_indexOfSupplementary_4cfef : CS yJ2_indexOfSupplementary_4cfef := wI_34 _ (List.mem_of_getElem? (i := 2) rfl)
theorem cd_J11_isValidCodePoint_9a6ad : CD yJ11_isValidCodePoint_9a6ad cJ11_isValidCodePoint_9a6ad 2 (some .boolean) 1 := ⟨wI_34 _ (List.mem_of_getElem? (i := 7) rfl), wI_34 _ (List.mem_of_getElem? (i := 6) rfl), by decide +kernel, by decide, by decide +kernel⟩
theorem st_J11_isValidCodePoint_9a6ad : CS yJ11_isValidCodePoint_9a6ad := wI_34 _ (List.mem_of_getElem? (i := 5) rfl)
theorem cd_J11_highSurrogate_5068e : CD yJ11_highSurrogate_5068e cJ11_highSurrogate_5068e 1 (some .char) 1 := ⟨wI_34 _ (List.mem_of_getElem? (i := 10) rfl), wI_34 _ (List.mem_of_getElem? (i := 6) rfl), by decide +kernel, by decide, by decide +kernel⟩
theorem st_J11_highSurrogate_5068e : CS yJ11_highSurrogate_5068e := wI_34 _ (List.mem_of_getElem? (i := 9) rfl)
theorem cd_J11_lowSurrogate_5068e : CD yJ11_lowSurrogate_5068e cJ11_lowSurrogate_5068e 1 (some .char) 1 := ⟨wI_34 _ (List.mem_of_getElem? (i := 14) rfl), wI_34 _ (List.mem_of_getElem? (i := 6) rfl), by decide +kernel, by decide, by decide +kernel⟩
theorem st_J11_lowSurrogate_5068e : CS yJ11_lowSurrogate_5068e := wI_34 _ (List.mem_of_getElem? (i := 13) rfl)
theorem cd_X4_addSign : CD yX4_addSign cX4_addSign 2 none 1 := ⟨wI_34 _ (List.mem_of_getElem? (i := 19) rfl), wI_1 _ (List.mem_of_getElem? (i := 16) rfl), by decide +kernel, by decide, by decide +kernel⟩
theorem iv_X4_addSign : CV yX4_addSign := ⟨wI_34 _ (List.mem_of_getElem? (i := 17) rfl), wI_34 _ (List.mem_of_getElem? (i := 18) rfl)⟩
theorem cd_X4_addStep : CD yX4_addStep cX4_addStep 2 none 1 := ⟨wI_34 _ (List.mem_of_getElem? (i := 23) rfl), wI_1 _ (List.mem_of_getElem? (i := 16) rfl), by decide +kernel, by decide, by decide +kernel⟩
theorem iv_X4_addStep : CV yX4_addStep := ⟨wI_34 _ (List.mem_of_getElem? (i := 21) rfl), wI_34 _ (List.mem_of_getElem? (i := 22) rfl)⟩
theorem cd_X5_readBrackets : CD yX5_readBrackets cX5_readBrackets 3 (some .boolean) 2 := ⟨wI_35 _ (List.mem_of_getElem? (i := 0) rfl), wI_1 _ (List.mem_of_getElem? (i := 23) rfl), by decide +kernel, by decide, by decide +kernel⟩
theorem iv_X5_readBrackets : CV yX5_readBrackets := ⟨wI_36 _ (List.mem_of_getElem? (i := 3) rfl), wI_36 _ (List.mem_of_getElem? (i := 4) rfl)⟩
theorem cd_X5_readNot : CD yX5_readNot cX5_readNot 3 (some .boolean) 2 := ⟨wI_35 _ (List.mem_of_getElem? (i := 1) rfl), wI_1 _ (List.mem_of_getElem? (i := 23) rfl), by decide +kernel, by decide, by decide +kernel⟩
theorem iv_X5_readNot : CV yX5_readNot := ⟨wI_36 _ (List.mem_of_getElem? (i := 0) rfl), wI_36 _ (List.mem_of_getElem? (i := 1) rfl)⟩
theorem cd_X5_readPiece : CD yX5_readPiece cX5_readPiece 3 (some .boolean) 2 := ⟨wI_35 _ (List.mem_of_getElem? (i := 2) rfl), wI_1 _ (List.mem_of_getElem? (i := 23) rfl), by decide +kernel, by decide, by decide +kernel⟩
theorem iv_X5_readPiece : CV yX5_readPiece := ⟨wI_31 _ (List.mem_of_getElem? (i := 23) rfl), wI_32 _ (List.mem_of_getElem? (i := 0) rfl)⟩
theorem cd_X5_number : CD yX5_number cX5_number 3 (some .int) 0 := ⟨wI_35 _ (List.mem_of_getElem? (i := 6) rfl), wI_1 _ (List.mem_of_getElem? (i := 23) rfl), by decide +kernel, by decide, by decide +kernel⟩
theorem iv_X5_number : CV yX5_number := ⟨wI_35 _ (List.mem_of_getElem? (i := 4) rfl), wI_35 _ (List.mem_of_getElem? (i := 5) rfl)⟩
theorem cd_X4_addNumber : CD yX4_addNumber cX4_addNumber 2 none 1 := ⟨wI_35 _ (List.mem_of_getElem? (i := 10) rfl), wI_1 _ (List.mem_of_getElem? (i := 16) rfl), by decide +kernel, by decide, by decide +kernel⟩
theorem iv_X4_addNumber : CV yX4_addNumber := ⟨wI_35 _ (List.mem_of_getElem? (i := 8) rfl), wI_35 _ (List.mem_of_getElem? (i := 9) rfl)⟩
theorem cd_X5_readName : CD yX5_readName cX5_readName 2 (some .boolean) 0 := ⟨wI_35 _ (List.mem_of_getElem? (i := 14) rfl), wI_1 _ (List.mem_of_getElem? (i := 23) rfl), by decide +kernel, by decide, by decide +kernel⟩
theorem iv_X5_readName : CV yX5_readName := ⟨wI_35 _ (List.mem_of_getElem? (i := 12) rfl), wI_35 _ (List.mem_of_getElem? (i := 13) rfl)⟩
theorem cd_X5_namesOf : CD yX5_namesOf cX5_namesOf 1 (some (.object "java/lang/String")) 1 := ⟨wI_35 _ (List.mem_of_getElem? (i := 18) rfl), wI_1 _ (List.mem_of_getElem? (i := 23) rfl), by decide +kernel, by decide, by decide +kernel⟩
theorem st_X5_namesOf : CS yX5_namesOf := wI_35 _ (List.mem_of_getElem? (i := 17) rfl)
theorem cd_X4_addName : CD yX4_addName cX4_addName 2 none 1 := ⟨wI_35 _ (List.mem_of_getElem? (i := 22) rfl), wI_1 _ (List.mem_of_getElem? (i := 16) rfl), by decide +kernel, by decide, by decide +kernel⟩
theorem iv_X4_addName : CV yX4_addName := ⟨wI_35 _ (List.mem_of_getElem? (i := 20) rfl), wI_35 _ (List.mem_of_getElem? (i := 21) rfl)⟩
theorem cd_X4_become : CD yX4_become cX4_become 2 none 1 := ⟨wI_36 _ (List.mem_of_getElem? (i := 8) rfl), wI_1 _ (List.mem_of_getElem? (i := 16) rfl), by decide +kernel, by decide, by decide +kernel⟩
theorem iv_X4_become : CV yX4_become := ⟨wI_36 _ (List.mem_of_getElem? (i := 6) rfl), wI_36 _ (List.mem_of_getElem? (i := 7) rfl)⟩
theorem cd_X8_text : CD yX8_text cX8_text 3 (some .int) 0 := ⟨wI_36 _ (List.mem_of_getElem? (i := 13) rfl), wI_1 _ (List.mem_of_getElem? (i := 5) rfl), by decide +kernel, by decide, by decide +kernel⟩
theorem iv_X8_text : CV yX8_text := ⟨wI_36 _ (List.mem_of_getElem? (i := 11) rfl), wI_36 _ (List.mem_of_getElem? (i := 12) rfl)⟩
theorem cd_X8_parse : CD yX8_parse cX8_parse 3 (some .int) 0 := ⟨wI_36 _ (List.mem_of_getElem? (i := 20) rfl), wI_1 _ (List.mem_of_getElem? (i := 5) rfl), by decide +kernel, by decide, by decide +kernel⟩
theorem iv_X8_parse : CV yX8_parse := ⟨wI_36 _ (List.mem_of_getElem? (i := 18) rfl), wI_36 _ (List.mem_of_getElem? (i := 19) rfl)⟩
theorem cd_X8_nextToken : CD yX8_nextToken cX8_nextToken 3 none 0 := ⟨wI_37 _ (List.mem_of_getElem? (i := 5) rfl), wI_1 _ (List.mem_of_getElem? (i := 5) rfl), by decide +kernel, by decide, by decide +kernel⟩
theorem iv_X8_nextToken : CV yX8_nextToken := ⟨wI_37 _ (List.mem_of_getElem? (i := 3) rfl), wI_37 _ (List.mem_of_getElem? (i := 4) rfl)⟩
theorem cd_X8_isLetter : CD yX8_isLetter cX8_isLetter 2 (some .boolean) 1 := ⟨wI_37 _ (List.mem_of_getElem? (i := 11) rfl), wI_1 _ (List.mem_of_getElem? (i := 5) rfl), by decide +kernel, by decide, by decide +kernel⟩
theorem iv_X8_isLetter : CV yX8_isLetter := ⟨wI_37 _ (List.mem_of_getElem? (i := 9) rfl), wI_37 _ (List.mem_of_getElem? (i := 10) rfl)⟩
theorem cd_X8_isDigit : CD yX8_isDigit cX8_isDigit 2 (some .boolean) 1 := ⟨wI_37 _ (List.mem_of_getElem? (i := 17) rfl), wI_1 _ (List.mem_of_getElem? (i := 5) rfl), by decide +kernel, by decide, by decide +kernel⟩
theorem iv_X8_isDigit : CV yX8_isDigit := ⟨wI_37 _ (List.mem_of_getElem? (i := 15) rfl), wI_37 _ (List.mem_of_getElem? (i := 16) rfl)⟩
theorem cd_X8_key : CD yX8_key cX8_key 1 (some .int) 0 := ⟨wI_37 _ (List.mem_of_getElem? (i := 23) rfl), wI_1 _ (List.mem_of_getElem? (i := 5) rfl), by decide +kernel, by decide, by decide +kernel⟩
theorem iv_X8_key : CV yX8_key := ⟨wI_37 _ (List.mem_of_getElem? (i := 21) rfl), wI_37 _ (List.mem_of_getElem? (i := 22) rfl)⟩
theorem cd_X8_isWordAt : CD yX8_isWordAt cX8_isWordAt 6 (some .boolean) 4 := ⟨wI_38 _ (List.mem_of_getElem? (i := 3) rfl), wI_1 _ (List.mem_of_getElem? (i := 5) rfl), by decide +kernel, by decide, by decide +kernel⟩
theorem iv_X8_isWordAt : CV yX8_isWordAt := ⟨wI_38 _ (List.mem_of_getElem? (i := 1) rfl), wI_38 _ (List.mem_of_getElem? (i := 2) rfl)⟩
theorem cd_X8_either : CD yX8_either cX8_either 2 (some .boolean) 1 := ⟨wI_38 _ (List.mem_of_getElem? (i := 7) rfl), wI_1 _ (List.mem_of_getElem? (i := 5) rfl), by decide +kernel, by decide, by decide +kernel⟩
theorem iv_X8_either : CV yX8_either := ⟨wI_38 _ (List.mem_of_getElem? (i := 5) rfl), wI_38 _ (List.mem_of_getElem? (i := 6) rfl)⟩
theorem cd_X8_isSign : CD yX8_isSign cX8_isSign 2 (some .boolean) 1 := ⟨wI_38 _ (List.mem_of_getElem? (i := 14) rfl), wI_1 _ (List.mem_of_getElem? (i := 5) rfl), by decide +kernel, by decide, by decide +kernel⟩
theorem iv_X8_isSign : CV yX8_isSign := ⟨wI_38 _ (List.mem_of_getElem? (i := 12) rfl), wI_38 _ (List.mem_of_getElem? (i := 13) rfl)⟩
theorem cd_X8_step : CD yX8_step cX8_step 3 none 2 := ⟨wI_38 _ (List.mem_of_getElem? (i := 18) rfl), wI_1 _ (List.mem_of_getElem? (i := 5) rfl), by decide +kernel, by decide, by decide +kernel⟩
theorem iv_X8_step : CV yX8_step := ⟨wI_38 _ (List.mem_of_getElem? (i := 16) rfl), wI_38 _ (List.mem_of_getElem? (i := 17) rfl)⟩
theorem cd_X8_both : CD yX8_both cX8_both 2 (some .boolean) 1 := ⟨wI_38 _ (List.mem_of_getElem? (i := 19) rfl), wI_1 _ (List.mem_of_getElem? (i := 5) rfl), by decide +kernel, by decide, by decide +kernel⟩
theorem iv_X8_both : CV yX8_both := ⟨wI_38 _ (List.mem_of_getElem? (i := 9) rfl), wI_38 _ (List.mem_of_getElem? (i := 10) rfl)⟩
theorem cd_X8_part0 : CD yX8_part0 cX8_part0 2 (some .boolean) 1 := ⟨wI_38 _ (List.mem_of_getElem? (i := 23) rfl), wI_1 _ (List.mem_of_getElem? (i := 5) rfl), by decide +kernel, by decide, by decide +kernel⟩
theorem iv_X8_part0 : CV yX8_part0 := ⟨wI_39 _ (List.mem_of_getElem? (i := 4) rfl), wI_39 _ (List.mem_of_getElem? (i := 5) rfl)⟩
theorem cd_X8_isName : CD yX8_isName cX8_isName 2 (some .boolean) 2 := ⟨wI_39 _ (List.mem_of_getElem? (i := 2) rfl), wI_1 _ (List.mem_of_getElem? (i := 5) rfl), by decide +kernel, by decide, by decide +kernel⟩
theorem st_X8_isName : CS yX8_isName := wI_39 _ (List.mem_of_getElem? (i := 1) rfl)
theorem cd_X8_sum : CD yX8_sum cX8_sum 3 (some .boolean) 1 := ⟨wI_39 _ (List.mem_of_getElem? (i := 6) rfl), wI_1 _ (List.mem_of_getElem? (i := 5) rfl), by decide +kernel, by decide, by decide +kernel⟩
theorem iv_X8_sum : CV yX8_sum := ⟨wI_39 _ (List.mem_of_getElem? (i := 13) rfl), wI_39 _ (List.mem_of_getElem? (i := 14) rfl)⟩
theorem cd_X8_term : CD yX8_term cX8_term 3 (some .boolean) 1 := ⟨wI_39 _ (List.mem_of_getElem? (i := 10) rfl), wI_1 _ (List.mem_of_getElem? (i := 5) rfl), by decide +kernel, by decide, by decide +kernel⟩
theorem iv_X8_term : CV yX8_term := ⟨wI_39 _ (List.mem_of_getElem? (i := 8) rfl), wI_39 _ (List.mem_of_getElem? (i := 9) rfl)⟩
theorem cd_X8_test : CD yX8_test cX8_test 3 (some .boolean) 1 := ⟨wI_39 _ (List.mem_of_getElem? (i := 11) rfl), wI_1 _ (List.mem_of_getElem? (i := 5) rfl), by decide +kernel, by decide, by decide +kernel⟩
theorem iv_X8_test : CV yX8_test := ⟨wI_38 _ (List.mem_of_getElem? (i := 21) rfl), wI_38 _ (List.mem_of_getElem? (i := 22) rfl)⟩
theorem cd_X7_textTold : CD yX7_textTold cX7_textTold 3 (some .int) 2 := ⟨wI_39 _ (List.mem_of_getElem? (i := 18) rfl), wI_1 _ (List.mem_of_getElem? (i := 2) rfl), by decide +kernel, by decide, by decide +kernel⟩
theorem iv_X7_textTold : CV yX7_textTold := ⟨wI_39 _ (List.mem_of_getElem? (i := 16) rfl), wI_39 _ (List.mem_of_getElem? (i := 17) rfl)⟩
theorem cd_X8_textTold : CD yX8_textTold cX8_textTold 3 (some .int) 2 := ⟨wI_39 _ (List.mem_of_getElem? (i := 23) rfl), wI_1 _ (List.mem_of_getElem? (i := 5) rfl), by decide +kernel, by decide, by decide +kernel⟩
theorem iv_X8_textTold : CV yX8_textTold := ⟨wI_39 _ (List.mem_of_getElem? (i := 21) rfl), wI_39 _ (List.mem_of_getElem? (i := 22) rfl)⟩
theorem cd_X8_isText : CD yX8_isText cX8_isText 2 (some .boolean) 1 := ⟨wI_40 _ (List.mem_of_getElem? (i := 3) rfl), wI_1 _ (List.mem_of_getElem? (i := 5) rfl), by decide +kernel, by decide, by decide +kernel⟩
theorem iv_X8_isText : CV yX8_isText := ⟨wI_40 _ (List.mem_of_getElem? (i := 1) rfl), wI_40 _ (List.mem_of_getElem? (i := 2) rfl)⟩
theorem cd_X7_why : CD yX7_why cX7_why 2 (some .int) 1 := ⟨wI_40 _ (List.mem_of_getElem? (i := 7) rfl), wI_1 _ (List.mem_of_getElem? (i := 2) rfl), by decide +kernel, by decide, by decide +kernel⟩
theorem iv_X7_why : CV yX7_why := ⟨wI_40 _ (List.mem_of_getElem? (i := 5) rfl), wI_40 _ (List.mem_of_getElem? (i := 6) rfl)⟩
theorem cd_X8_why : CD yX8_why cX8_why 2 (some .int) 1 := ⟨wI_40 _ (List.mem_of_getElem? (i := 11) rfl), wI_1 _ (List.mem_of_getElem? (i := 5) rfl), by decide +kernel, by decide, by decide +kernel⟩
theorem iv_X8_why : CV yX8_why := ⟨wI_40 _ (List.mem_of_getElem? (i := 9) rfl), wI_40 _ (List.mem_of_getElem? (i := 10) rfl)⟩
theorem cd_X7_sheet : CD yX7_sheet cX7_sheet 4 (some .int) 3 := ⟨wI_40 _ (List.mem_of_getElem? (i := 16) rfl), wI_1 _ (List.mem_of_getElem? (i := 2) rfl), by decide +kernel, by decide, by decide +kernel⟩
theorem iv_X7_sheet : CV yX7_sheet := ⟨wI_40 _ (List.mem_of_getElem? (i := 14) rfl), wI_40 _ (List.mem_of_getElem? (i := 15) rfl)⟩
theorem cd_X1_begin : CD yX1_begin cX1_begin 3 none 2 := ⟨wI_40 _ (List.mem_of_getElem? (i := 21) rfl), wI_2 _ (List.mem_of_getElem? (i := 10) rfl), by decide +kernel, by decide, by decide +kernel⟩
theorem iv_X1_begin : CV yX1_begin := ⟨wI_40 _ (List.mem_of_getElem? (i := 19) rfl), wI_40 _ (List.mem_of_getElem? (i := 20) rfl)⟩
theorem cd_X8_sheet : CD yX8_sheet cX8_sheet 5 (some .int) 3 := ⟨wI_41 _ (List.mem_of_getElem? (i := 2) rfl), wI_1 _ (List.mem_of_getElem? (i := 5) rfl), by decide +kernel, by decide, by decide +kernel⟩
theorem iv_X8_sheet : CV yX8_sheet := ⟨wI_41 _ (List.mem_of_getElem? (i := 0) rfl), wI_41 _ (List.mem_of_getElem? (i := 1) rfl)⟩
theorem cd_X7_mark : CD yX7_mark cX7_mark 5 (some .int) 3 := ⟨wI_41 _ (List.mem_of_getElem? (i := 8) rfl), wI_1 _ (List.mem_of_getElem? (i := 2) rfl), by decide +kernel, by decide, by decide +kernel⟩
theorem iv_X7_mark : CV yX7_mark := ⟨wI_41 _ (List.mem_of_getElem? (i := 6) rfl), wI_41 _ (List.mem_of_getElem? (i := 7) rfl)⟩
theorem cd_X8_mark : CD yX8_mark cX8_mark 4 (some .int) 3 := ⟨wI_41 _ (List.mem_of_getElem? (i := 17) rfl), wI_1 _ (List.mem_of_getElem? (i := 5) rfl), by decide +kernel, by decide, by decide +kernel⟩
theorem iv_X8_mark : CV yX8_mark := ⟨wI_41 _ (List.mem_of_getElem? (i := 15) rfl), wI_41 _ (List.mem_of_getElem? (i := 16) rfl)⟩
theorem cd_X7_pour : CD yX7_pour cX7_pour 6 (some .int) 1 := ⟨wI_42 _ (List.mem_of_getElem? (i := 0) rfl), wI_1 _ (List.mem_of_getElem? (i := 2) rfl), by decide +kernel, by decide, by decide +kernel⟩
theorem iv_X7_pour : CV yX7_pour := ⟨wI_41 _ (List.mem_of_getElem? (i := 22) rfl), wI_41 _ (List.mem_of_getElem? (i := 23) rfl)⟩
theorem cd_X8_pour : CD yX8_pour cX8_pour 6 (some .int) 1 := ⟨wI_42 _ (List.mem_of_getElem? (i := 5) rfl), wI_1 _ (List.mem_of_getElem? (i := 5) rfl), by decide +kernel, by decide, by decide +kernel⟩
theorem iv_X8_pour : CV yX8_pour := ⟨wI_42 _ (List.mem_of_getElem? (i := 3) rfl), wI_42 _ (List.mem_of_getElem? (i := 4) rfl)⟩
theorem cd_X7_reads : CD yX7_reads cX7_reads 4 (some .int) 1 := ⟨wI_42 _ (List.mem_of_getElem? (i := 9) rfl), wI_1 _ (List.mem_of_getElem? (i := 2) rfl), by decide +kernel, by decide, by decide +kernel⟩
theorem iv_X7_reads : CV yX7_reads := ⟨wI_42 _ (List.mem_of_getElem? (i := 7) rfl), wI_42 _ (List.mem_of_getElem? (i := 8) rfl)⟩
theorem cd_X8_reads : CD yX8_reads cX8_reads 4 (some .int) 1 := ⟨wI_42 _ (List.mem_of_getElem? (i := 13) rfl), wI_1 _ (List.mem_of_getElem? (i := 5) rfl), by decide +kernel, by decide, by decide +kernel⟩
theorem iv_X8_reads : CV yX8_reads := ⟨wI_42 _ (List.mem_of_getElem? (i := 11) rfl), wI_42 _ (List.mem_of_getElem? (i := 12) rfl)⟩
theorem cd_X7_copy : CD yX7_copy cX7_copy 8 (some .int) 5 := ⟨wI_42 _ (List.mem_of_getElem? (i := 17) rfl), wI_1 _ (List.mem_of_getElem? (i := 2) rfl), by decide +kernel, by decide, by decide +kernel⟩
theorem iv_X7_copy : CV yX7_copy := ⟨wI_42 _ (List.mem_of_getElem? (i := 15) rfl), wI_42 _ (List.mem_of_getElem? (i := 16) rfl)⟩
theorem cd_X1_hasRow : CD yX1_hasRow cX1_hasRow 3 (some .boolean) 2 := ⟨wI_42 _ (List.mem_of_getElem? (i := 22) rfl), wI_2 _ (List.mem_of_getElem? (i := 10) rfl), by decide +kernel, by decide, by decide +kernel⟩
theorem iv_X1_hasRow : CV yX1_hasRow := ⟨wI_42 _ (List.mem_of_getElem? (i := 20) rfl), wI_42 _ (List.mem_of_getElem? (i := 21) rfl)⟩
theorem cd_X8_copy : CD yX8_copy cX8_copy 7 (some .int) 5 := ⟨wI_43 _ (List.mem_of_getElem? (i := 2) rfl), wI_1 _ (List.mem_of_getElem? (i := 5) rfl), by decide +kernel, by decide, by decide +kernel⟩
theorem iv_X8_copy : CV yX8_copy := ⟨wI_43 _ (List.mem_of_getElem? (i := 0) rfl), wI_43 _ (List.mem_of_getElem? (i := 1) rfl)⟩
theorem cd_X7_lay : CD yX7_lay cX7_lay 6 (some .int) 3 := ⟨wI_43 _ (List.mem_of_getElem? (i := 6) rfl), wI_1 _ (List.mem_of_getElem? (i := 2) rfl), by decide +kernel, by decide, by decide +kernel⟩
theorem iv_X7_lay : CV yX7_lay := ⟨wI_43 _ (List.mem_of_getElem? (i := 4) rfl), wI_43 _ (List.mem_of_getElem? (i := 5) rfl)⟩
theorem cd_X7_isSlot : CD yX7_isSlot cX7_isSlot 1 (some .boolean) 1 := ⟨wI_43 _ (List.mem_of_getElem? (i := 13) rfl), wI_1 _ (List.mem_of_getElem? (i := 2) rfl), by decide +kernel, by decide, by decide +kernel⟩
theorem st_X7_isSlot : CS yX7_isSlot := wI_43 _ (List.mem_of_getElem? (i := 12) rfl)
theorem cd_X1_become : CD yX1_become cX1_become 2 none 1 := ⟨wI_43 _ (List.mem_of_getElem? (i := 18) rfl), wI_2 _ (List.mem_of_getElem? (i := 10) rfl), by decide +kernel, by decide, by decide +kernel⟩
theorem iv_X1_become : CV yX1_become := ⟨wI_43 _ (List.mem_of_getElem? (i := 16) rfl), wI_43 _ (List.mem_of_getElem? (i := 17) rfl)⟩
theorem cd_X8_lay : CD yX8_lay cX8_lay 7 (some .int) 3 := ⟨wI_43 _ (List.mem_of_getElem? (i := 23) rfl), wI_1 _ (List.mem_of_getElem? (i := 5) rfl), by decide +kernel, by decide, by decide +kernel⟩
theorem iv_X8_lay : CV yX8_lay := ⟨wI_43 _ (List.mem_of_getElem? (i := 21) rfl), wI_43 _ (List.mem_of_getElem? (i := 22) rfl)⟩
theorem cd_X8_isSlot : CD yX8_isSlot cX8_isSlot 1 (some .boolean) 1 := ⟨wI_44 _ (List.mem_of_getElem? (i := 2) rfl), wI_1 _ (List.mem_of_getElem? (i := 5) rfl), by decide +kernel, by decide, by decide +kernel⟩
theorem st_X8_isSlot : CS yX8_isSlot := wI_44 _ (List.mem_of_getElem? (i := 1) rfl)
theorem cd_X7_ask : CD yX7_ask cX7_ask 4 (some .int) 2 := ⟨wI_44 _ (List.mem_of_getElem? (i := 6) rfl), wI_1 _ (List.mem_of_getElem? (i := 2) rfl), by decide +kernel, by decide, by decide +kernel⟩
theorem iv_X7_ask : CV yX7_ask := ⟨wI_44 _ (List.mem_of_getElem? (i := 4) rfl), wI_44 _ (List.mem_of_getElem? (i := 5) rfl)⟩
theorem cd_X8_ask : CD yX8_ask cX8_ask 3 (some .int) 2 := ⟨wI_44 _ (List.mem_of_getElem? (i := 10) rfl), wI_1 _ (List.mem_of_getElem? (i := 5) rfl), by decide +kernel, by decide, by decide +kernel⟩
theorem iv_X8_ask : CV yX8_ask := ⟨wI_44 _ (List.mem_of_getElem? (i := 8) rfl), wI_44 _ (List.mem_of_getElem? (i := 9) rfl)⟩
theorem cd_X7_item : CD yX7_item cX7_item 4 (some .int) 2 := ⟨wI_44 _ (List.mem_of_getElem? (i := 14) rfl), wI_1 _ (List.mem_of_getElem? (i := 2) rfl), by decide +kernel, by decide, by decide +kernel⟩
theorem iv_X7_item : CV yX7_item := ⟨wI_44 _ (List.mem_of_getElem? (i := 12) rfl), wI_44 _ (List.mem_of_getElem? (i := 13) rfl)⟩
theorem cd_X8_item : CD yX8_item cX8_item 4 (some .int) 2 := ⟨wI_44 _ (List.mem_of_getElem? (i := 18) rfl), wI_1 _ (List.mem_of_getElem? (i := 5) rfl), by decide +kernel, by decide, by decide +kernel⟩
theorem iv_X8_item : CV yX8_item := ⟨wI_44 _ (List.mem_of_getElem? (i := 16) rfl), wI_44 _ (List.mem_of_getElem? (i := 17) rfl)⟩
theorem cd_X7_rest : CD yX7_rest cX7_rest 4 (some .int) 2 := ⟨wI_44 _ (List.mem_of_getElem? (i := 22) rfl), wI_1 _ (List.mem_of_getElem? (i := 2) rfl), by decide +kernel, by decide, by decide +kernel⟩
theorem iv_X7_rest : CV yX7_rest := ⟨wI_44 _ (List.mem_of_getElem? (i := 20) rfl), wI_44 _ (List.mem_of_getElem? (i := 21) rfl)⟩
theorem cd_X8_rest : CD yX8_rest cX8_rest 3 (some .int) 2 := ⟨wI_45 _ (List.mem_of_getElem? (i := 3) rfl), wI_1 _ (List.mem_of_getElem? (i := 5) rfl), by decide +kernel, by decide, by decide +kernel⟩
theorem iv_X8_rest : CV yX8_rest := ⟨wI_45 _ (List.mem_of_getElem? (i := 1) rfl), wI_45 _ (List.mem_of_getElem? (i := 2) rfl)⟩
theorem cd_X7_tell : CD yX7_tell cX7_tell 2 (some .int) 1 := ⟨wI_45 _ (List.mem_of_getElem? (i := 8) rfl), wI_1 _ (List.mem_of_getElem? (i := 2) rfl), by decide +kernel, by decide, by decide +kernel⟩
theorem iv_X7_tell : CV yX7_tell := ⟨wI_45 _ (List.mem_of_getElem? (i := 6) rfl), wI_45 _ (List.mem_of_getElem? (i := 7) rfl)⟩
theorem cd_X8_tell : CD yX8_tell cX8_tell 2 (some .int) 1 := ⟨wI_45 _ (List.mem_of_getElem? (i := 13) rfl), wI_1 _ (List.mem_of_getElem? (i := 5) rfl), by decide +kernel, by decide, by decide +kernel⟩
theorem iv_X8_tell : CV yX8_tell := ⟨wI_45 _ (List.mem_of_getElem? (i := 11) rfl), wI_45 _ (List.mem_of_getElem? (i := 12) rfl)⟩
theorem cd_X7_check : CD yX7_check cX7_check 6 (some .int) 1 := ⟨wI_45 _ (List.mem_of_getElem? (i := 18) rfl), wI_1 _ (List.mem_of_getElem? (i := 2) rfl), by decide +kernel, by decide, by decide +kernel⟩
theorem iv_X7_check : CV yX7_check := ⟨wI_45 _ (List.mem_of_getElem? (i := 16) rfl), wI_45 _ (List.mem_of_getElem? (i := 17) rfl)⟩
theorem cd_X8_check : CD yX8_check cX8_check 5 (some .int) 1 := ⟨wI_45 _ (List.mem_of_getElem? (i := 23) rfl), wI_1 _ (List.mem_of_getElem? (i := 5) rfl), by decide +kernel, by decide, by decide +kernel⟩
theorem iv_X8_check : CV yX8_check := ⟨wI_45 _ (List.mem_of_getElem? (i := 21) rfl), wI_45 _ (List.mem_of_getElem? (i := 22) rfl)⟩
theorem cd_X8_setAside : CD yX8_setAside cX8_setAside 4 none 2 := ⟨wI_46 _ (List.mem_of_getElem? (i := 5) rfl), wI_1 _ (List.mem_of_getElem? (i := 5) rfl), by decide +kernel, by decide, by decide +kernel⟩
theorem iv_X8_setAside : CV yX8_setAside := ⟨wI_46 _ (List.mem_of_getElem? (i := 3) rfl), wI_46 _ (List.mem_of_getElem? (i := 4) rfl)⟩
theorem cd_X7_keep : CD yX7_keep cX7_keep 1 (some .int) 0 := ⟨wI_46 _ (List.mem_of_getElem? (i := 9) rfl), wI_1 _ (List.mem_of_getElem? (i := 2) rfl), by decide +kernel, by decide, by decide +kernel⟩
theorem iv_X7_keep : CV yX7_keep := ⟨wI_46 _ (List.mem_of_getElem? (i := 7) rfl), wI_46 _ (List.mem_of_getElem? (i := 8) rfl)⟩
theorem cd_X8_keep : CD yX8_keep cX8_keep 1 (some .int) 0 := ⟨wI_46 _ (List.mem_of_getElem? (i := 13) rfl), wI_1 _ (List.mem_of_getElem? (i := 5) rfl), by decide +kernel, by decide, by decide +kernel⟩
theorem iv_X8_keep : CV yX8_keep := ⟨wI_46 _ (List.mem_of_getElem? (i := 11) rfl), wI_46 _ (List.mem_of_getElem? (i := 12) rfl)⟩
theorem cd_X7_back : CD yX7_back cX7_back 1 (some .int) 0 := ⟨wI_46 _ (List.mem_of_getElem? (i := 17) rfl), wI_1 _ (List.mem_of_getElem? (i := 2) rfl), by decide +kernel, by decide, by decide +kernel⟩
theorem iv_X7_back : CV yX7_back := ⟨wI_46 _ (List.mem_of_getElem? (i := 15) rfl), wI_46 _ (List.mem_of_getElem? (i := 16) rfl)⟩
theorem cd_X8_back : CD yX8_back cX8_back 1 (some .int) 0 := ⟨wI_46 _ (List.mem_of_getElem? (i := 21) rfl), wI_1 _ (List.mem_of_getElem? (i := 5) rfl), by decide +kernel, by decide, by decide +kernel⟩
theorem iv_X8_back : CV yX8_back := ⟨wI_46 _ (List.mem_of_getElem? (i := 19) rfl), wI_46 _ (List.mem_of_getElem? (i := 20) rfl)⟩
theorem cd_X7_count : CD yX7_count cX7_count 2 (some .int) 1 := ⟨wI_47 _ (List.mem_of_getElem? (i := 1) rfl), wI_1 _ (List.mem_of_getElem? (i := 2) rfl), by decide +kernel, by decide, by decide +kernel⟩
theorem iv_X7_count : CV yX7_count := ⟨wI_46 _ (List.mem_of_getElem? (i := 23) rfl), wI_47 _ (List.mem_of_getElem? (i := 0) rfl)⟩
theorem cd_X8_count : CD yX8_count cX8_count 2 (some .int) 1 := ⟨wI_47 _ (List.mem_of_getElem? (i := 6) rfl), wI_1 _ (List.mem_of_getElem? (i := 5) rfl), by decide +kernel, by decide, by decide +kernel⟩
theorem iv_X8_count : CV yX8_count := ⟨wI_47 _ (List.mem_of_getElem? (i := 4) rfl), wI_47 _ (List.mem_of_getElem? (i := 5) rfl)⟩
