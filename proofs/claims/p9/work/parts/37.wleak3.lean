theorem hw_X12_leak_X12 : ∀ w ∈ wsX120, w ∈ wsX12_leak := fun w h => List.mem_cons_of_mem _ (List.mem_append_right _ h)
theorem hw_X12_tick_X12 : ∀ w ∈ wsX120, w ∈ wsX12_tick := fun w h => List.mem_cons_of_mem _ (List.mem_append_right _ h)
