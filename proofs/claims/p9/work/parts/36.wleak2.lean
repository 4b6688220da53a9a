theorem hw_X12_putAside_X12 : ∀ w ∈ wsX120, w ∈ wsX12_putAside := fun w h => List.mem_cons_of_mem _ (List.mem_append_right _ h)
theorem hw_X12_putBack_X12 : ∀ w ∈ wsX120, w ∈ wsX12_putBack := fun w h => List.mem_cons_of_mem _ (List.mem_append_right _ h)
