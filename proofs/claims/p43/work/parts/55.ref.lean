/-! the reference: values -/
