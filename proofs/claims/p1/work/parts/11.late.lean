section NLT
theorem ni_w1437 : Cond.methodLink "java/util/Arrays" 86 ⟨"java/lang/Object", "getClass", "()Ljava/lang/Class;"⟩ ∈ ni_tb := ni_in 1437 (by decide +kernel) (by decide +kernel)
theorem ni_w1438 : Cond.instanceMethod ⟨"java/lang/Object", "getClass", "()Ljava/lang/Class;"⟩ ∈ ni_tb := ni_in 1438 (by decide +kernel) (by decide +kernel)
theorem ni_w1439 : Cond.sameMethod "java/lang/Object" "java/lang/Object" "getClass" "()Ljava/lang/Class;" ∈ ni_tb := ni_in 1439 (by decide +kernel) (by decide +kernel)
theorem ni_w1462 : Cond.native ⟨"java/lang/Object", "getClass", "()Ljava/lang/Class;"⟩ ∈ ni_tb := ni_in 1462 (by decide +kernel) (by decide +kernel)
theorem ni_w1466 : Cond.classLink "java/util/Arrays" 110 "[Ljava/lang/Object;" ∈ ni_tb := ni_in 1466 (by decide +kernel) (by decide +kernel)
theorem ni_w2332 : Cond.methodLink "java/util/ArrayList" 42 ni_yT ∈ ni_tb := ni_in 2332 (by decide +kernel) (by decide +kernel)
theorem ni_w2336 : Cond.selects "java/util/ArrayList" ni_yT ni_yA ∈ ni_tb := ni_in 2336 (by decide +kernel) (by decide +kernel)
theorem ni_w2338 : Cond.instanceMethod ni_yA ∈ ni_tb := ni_in 2338 (by decide +kernel) (by decide +kernel)
theorem ni_w2340 : ni_cw 188 ∈ ni_tb := ni_in 2340 (by decide +kernel) (by decide +kernel)
theorem ni_w2395 : Cond.selects "[Ljava/lang/Object;" ⟨"java/lang/Object", "getClass", "()Ljava/lang/Class;"⟩ ⟨"java/lang/Object", "getClass", "()Ljava/lang/Class;"⟩ ∈ ni_tb := ni_in 2395 (by decide +kernel) (by decide +kernel)
theorem ni_dJx4a65c_addAll_f0b43_1 : decode cJx4a65c_addAll_f0b43 1 = .ok (.invokeinterface 42 1, 5) := by decide +kernel
theorem ni_dJ7_copyOf_1904c_3 : decode cJ7_copyOf_1904c 3 = .ok (.invokevirtual 86, 3) := by decide +kernel
theorem ni_dJ7_copyOf_6403c_1 : decode cJ7_copyOf_6403c 1 = .ok (.ldc 110, 2) := by decide +kernel
theorem ni_dJ7_copyOf_6403c_3 : decode cJ7_copyOf_6403c 3 = .ok (.if_acmp .ne 10, 3) := by decide +kernel
end NLT
